set_option maxRecDepth 20000 in
theorem q10_s {L : Nat} {xs : Nat → Int32} {d : Nat} {I : Nat → Nat → Int32} {J : Nat → Nat → Int64} {R : Nat → Nat → Nat} {w f : Int32} (hG : aGd R) (b1 : w.toInt ≥ 0) (b2 : w.toInt < 9) {v : Option Value} {h' : xH} (hk : xEv L xs d 77 27 [.ref 53, .int w, .int f, .int 10, .long 0, xmk, .int ((I 53 1) - 1), xmk, xmk, xmk, xmk] [] (124, I, J, R) v h') : xEv L xs d 77 0 [.ref 53, .int w, .int f, .int 10, xmk, xmk, xmk, xmk, xmk, xmk, xmk] [] (124, I, J, R) v h' := by
  refine ev_go 1 (pc1 := 1) (lv1 := [.ref 53, .int w, .int f, .int 10, xmk, xmk, xmk, xmk, xmk, xmk, xmk]) (st1 := [.int w]) (h1 := (124, I, J, R)) rfl ?_
  refine ev_br (b1 := false) rfl rfl (xcd_nlt (x := w) (y := 0) (by rw [show ((0 : Int32)).toInt = 0 from by decide]; first | exact b1 | omega)) ?_
  refine ev_go 2 (pc1 := 7) (lv1 := [.ref 53, .int w, .int f, .int 10, xmk, xmk, xmk, xmk, xmk, xmk, xmk]) (st1 := [.int 9, .int w]) (h1 := (124, I, J, R)) rfl ?_
  refine ev_br (b1 := false) rfl rfl (xcd_nge (x := w) (y := 9) (by rw [show ((9 : Int32)).toInt = 9 from by decide]; first | exact b2 | omega)) ?_
  refine ev_go 10 (pc1 := 27) (lv1 := [.ref 53, .int w, .int f, .int 10, .long 0, xmk, .int ((I 53 1) - 1), xmk, xmk, xmk, xmk]) (st1 := []) (h1 := (124, I, J, R)) rfl ?_
  exact hk
set_option maxRecDepth 20000 in
theorem q10_l {L : Nat} {xs : Nat → Int32} {d : Nat} {I : Nat → Nat → Int32} {J : Nat → Nat → Int64} {R : Nat → Nat → Nat} {w f i dx1 : Int32} {w7 : Value} {cy : Int64} (hG : aGd R) (b1 : i.toInt > 0) (n1 : 0 ≤ ((w * 9) + i).toInt) (m1 : ((w * 9) + i).toInt < 81) (n2 : 0 ≤ ((w * 9) + i).toInt) (m2 : ((w * 9) + i).toInt < 81) (i1 : i + (-1) = dx1) {v : Option Value} {h' : xH} (hk : xEv L xs d 77 27 [.ref 53, .int w, .int f, .int 10, .long ((((J 54 ((w * 9) + i).toNatClampNeg) * f.toInt64) + cy) / 10000000000000000), xmk, .int dx1, .long (((J 54 ((w * 9) + i).toNatClampNeg) * f.toInt64) + cy), xmk, xmk, xmk] [] (124, I, (uL J 54 ((w * 9) + i).toNatClampNeg ((((J 54 ((w * 9) + i).toNatClampNeg) * f.toInt64) + cy) - (((J 54 ((w * 9) + i).toNatClampNeg) * f.toInt64) + cy) / 10000000000000000 * 10000000000000000)), R) v h') : xEv L xs d 77 27 [.ref 53, .int w, .int f, .int 10, .long cy, xmk, .int i, w7, xmk, xmk, xmk] [] (124, I, J, R) v h' := by
  refine ev_go 1 (pc1 := 29) (lv1 := [.ref 53, .int w, .int f, .int 10, .long cy, xmk, .int i, w7, xmk, xmk, xmk]) (st1 := [.int i]) (h1 := (124, I, J, R)) rfl ?_
  refine ev_br (b1 := false) rfl rfl (xcd_nle (x := i) (y := 0) (by rw [show ((0 : Int32)).toInt = 0 from by decide]; first | exact b1 | omega)) ?_
  refine ev_go 1 (pc1 := 33) (lv1 := [.ref 53, .int w, .int f, .int 10, .long cy, xmk, .int i, w7, xmk, xmk, xmk]) (st1 := [.ref 53]) (h1 := (124, I, J, R)) rfl ?_
  refine ev_gf (c := 53) (t := 54) (X := R 53 0) rfl rfl (fun _ => rfl) rfl (hG 53 0 54 rfl rfl) ?_
  refine ev_go 5 (pc1 := 43) (lv1 := [.ref 53, .int w, .int f, .int 10, .long cy, xmk, .int i, w7, xmk, xmk, xmk]) (st1 := [.int ((w * 9) + i), .ref 54]) (h1 := (124, I, J, R)) rfl ?_
  refine ev_lld (n := 81) rfl rfl (fun _ => rfl) n1 m1 ?_
  refine ev_go 8 (pc1 := 57) (lv1 := [.ref 53, .int w, .int f, .int 10, .long cy, xmk, .int i, .long (((J 54 ((w * 9) + i).toNatClampNeg) * f.toInt64) + cy), xmk, xmk, xmk]) (st1 := [.long 10000000000000000, .long (((J 54 ((w * 9) + i).toNatClampNeg) * f.toInt64) + cy)]) (h1 := (124, I, J, R)) rfl ?_
  refine ev_go 3 (pc1 := 61) (lv1 := [.ref 53, .int w, .int f, .int 10, .long ((((J 54 ((w * 9) + i).toNatClampNeg) * f.toInt64) + cy) / 10000000000000000), xmk, .int i, .long (((J 54 ((w * 9) + i).toNatClampNeg) * f.toInt64) + cy), xmk, xmk, xmk]) (st1 := [.ref 53]) (h1 := (124, I, J, R)) rfl ?_
  refine ev_gf (c := 53) (t := 54) (X := R 53 0) rfl rfl (fun _ => rfl) rfl (hG 53 0 54 rfl rfl) ?_
  refine ev_go 7 (pc1 := 76) (lv1 := [.ref 53, .int w, .int f, .int 10, .long ((((J 54 ((w * 9) + i).toNatClampNeg) * f.toInt64) + cy) / 10000000000000000), xmk, .int i, .long (((J 54 ((w * 9) + i).toNatClampNeg) * f.toInt64) + cy), xmk, xmk, xmk]) (st1 := [.long 10000000000000000, .long (((J 54 ((w * 9) + i).toNatClampNeg) * f.toInt64) + cy), .int ((w * 9) + i), .ref 54]) (h1 := (124, I, J, R)) rfl ?_
  refine ev_go 1 (pc1 := 77) (lv1 := [.ref 53, .int w, .int f, .int 10, .long ((((J 54 ((w * 9) + i).toNatClampNeg) * f.toInt64) + cy) / 10000000000000000), xmk, .int i, .long (((J 54 ((w * 9) + i).toNatClampNeg) * f.toInt64) + cy), xmk, xmk, xmk]) (st1 := [.long ((((J 54 ((w * 9) + i).toNatClampNeg) * f.toInt64) + cy) - (((J 54 ((w * 9) + i).toNatClampNeg) * f.toInt64) + cy) / 10000000000000000 * 10000000000000000), .int ((w * 9) + i), .ref 54]) (h1 := (124, I, J, R)) rfl ?_
  refine ev_lst (n := 81) rfl rfl (fun _ => rfl) n2 m2 ?_
  refine ev_iinc (x := i) (y := dx1) (lv1 := [.ref 53, .int w, .int f, .int 10, .long ((((J 54 ((w * 9) + i).toNatClampNeg) * f.toInt64) + cy) / 10000000000000000), xmk, .int dx1, .long (((J 54 ((w * 9) + i).toNatClampNeg) * f.toInt64) + cy), xmk, xmk, xmk]) rfl rfl (by rw [show Int32.ofInt (-1) = (-1) from by decide]; exact i1) rfl ?_
  refine ev_go 1 (pc1 := 27) (lv1 := [.ref 53, .int w, .int f, .int 10, .long ((((J 54 ((w * 9) + i).toNatClampNeg) * f.toInt64) + cy) / 10000000000000000), xmk, .int dx1, .long (((J 54 ((w * 9) + i).toNatClampNeg) * f.toInt64) + cy), xmk, xmk, xmk]) (st1 := []) (h1 := (124, I, (uL J 54 ((w * 9) + i).toNatClampNeg ((((J 54 ((w * 9) + i).toNatClampNeg) * f.toInt64) + cy) - (((J 54 ((w * 9) + i).toNatClampNeg) * f.toInt64) + cy) / 10000000000000000 * 10000000000000000)), R)) rfl ?_
  exact hk
set_option maxRecDepth 20000 in
theorem q10_x {L : Nat} {xs : Nat → Int32} {d : Nat} {I : Nat → Nat → Int32} {J : Nat → Nat → Int64} {R : Nat → Nat → Nat} {w f i : Int32} {w7 : Value} {cy : Int64} (hG : aGd R) (b1 : i.toInt ≤ 0) (n1 : 0 ≤ (w * 9).toInt) (m1 : (w * 9).toInt < 81) (n2 : 0 ≤ (w * 9).toInt) (m2 : (w * 9).toInt < 81) {v : Option Value} {h' : xH} (hk : xEv L xs d 77 114 [.ref 53, .int w, .int f, .int 10, .long cy, xmk, .long 0, xmk, .int 0, xmk, xmk] [] (124, I, (uL J 54 (w * 9).toNatClampNeg (((J 54 (w * 9).toNatClampNeg) * f.toInt64) + cy)), R) v h') : xEv L xs d 77 27 [.ref 53, .int w, .int f, .int 10, .long cy, xmk, .int i, w7, xmk, xmk, xmk] [] (124, I, J, R) v h' := by
  refine ev_go 1 (pc1 := 29) (lv1 := [.ref 53, .int w, .int f, .int 10, .long cy, xmk, .int i, w7, xmk, xmk, xmk]) (st1 := [.int i]) (h1 := (124, I, J, R)) rfl ?_
  refine ev_br (b1 := true) rfl rfl (xcd_le (x := i) (y := 0) (by rw [show ((0 : Int32)).toInt = 0 from by decide]; first | exact b1 | omega)) ?_
  refine ev_go 1 (pc1 := 85) (lv1 := [.ref 53, .int w, .int f, .int 10, .long cy, xmk, .int i, w7, xmk, xmk, xmk]) (st1 := [.ref 53]) (h1 := (124, I, J, R)) rfl ?_
  refine ev_gf (c := 53) (t := 54) (X := R 53 0) rfl rfl (fun _ => rfl) rfl (hG 53 0 54 rfl rfl) ?_
  refine ev_go 4 (pc1 := 93) (lv1 := [.ref 53, .int w, .int f, .int 10, .long cy, xmk, .int i, w7, xmk, xmk, xmk]) (st1 := [.ref 53, .int (w * 9), .ref 54]) (h1 := (124, I, J, R)) rfl ?_
  refine ev_gf (c := 53) (t := 54) (X := R 53 0) rfl rfl (fun _ => rfl) rfl (hG 53 0 54 rfl rfl) ?_
  refine ev_go 3 (pc1 := 100) (lv1 := [.ref 53, .int w, .int f, .int 10, .long cy, xmk, .int i, w7, xmk, xmk, xmk]) (st1 := [.int (w * 9), .ref 54, .int (w * 9), .ref 54]) (h1 := (124, I, J, R)) rfl ?_
  refine ev_lld (n := 81) rfl rfl (fun _ => rfl) n1 m1 ?_
  refine ev_go 5 (pc1 := 107) (lv1 := [.ref 53, .int w, .int f, .int 10, .long cy, xmk, .int i, w7, xmk, xmk, xmk]) (st1 := [.long (((J 54 (w * 9).toNatClampNeg) * f.toInt64) + cy), .int (w * 9), .ref 54]) (h1 := (124, I, J, R)) rfl ?_
  refine ev_lst (n := 81) rfl rfl (fun _ => rfl) n2 m2 ?_
  refine ev_go 4 (pc1 := 114) (lv1 := [.ref 53, .int w, .int f, .int 10, .long cy, xmk, .long 0, xmk, .int 0, xmk, xmk]) (st1 := []) (h1 := (124, I, (uL J 54 (w * 9).toNatClampNeg (((J 54 (w * 9).toNatClampNeg) * f.toInt64) + cy)), R)) rfl ?_
  exact hk
set_option maxRecDepth 20000 in
theorem q10_d {L : Nat} {xs : Nat → Int32} {d : Nat} {I : Nat → Nat → Int32} {J : Nat → Nat → Int64} {R : Nat → Nat → Nat} {w f i : Int32} {w9 : Value} {cy rs : Int64} (hG : aGd R) (b1 : i.toInt < (I 53 1).toInt) (n1 : 0 ≤ ((w * 9) + i).toInt) (m1 : ((w * 9) + i).toInt < 81) (n2 : 0 ≤ ((w * 9) + i).toInt) (m2 : ((w * 9) + i).toInt < 81) {v : Option Value} {h' : xH} (hk : xEv L xs d 77 114 [.ref 53, .int w, .int f, .int 10, .long cy, xmk, .long (((rs * 10000000000000000) + (J 54 ((w * 9) + i).toNatClampNeg)) - ((rs * 10000000000000000) + (J 54 ((w * 9) + i).toNatClampNeg)) / (10 : Int32).toInt64 * (10 : Int32).toInt64), xmk, .int (i + 1), .long ((rs * 10000000000000000) + (J 54 ((w * 9) + i).toNatClampNeg)), xmk] [] (124, I, (uL J 54 ((w * 9) + i).toNatClampNeg (((rs * 10000000000000000) + (J 54 ((w * 9) + i).toNatClampNeg)) / (10 : Int32).toInt64)), R) v h') : xEv L xs d 77 114 [.ref 53, .int w, .int f, .int 10, .long cy, xmk, .long rs, xmk, .int i, w9, xmk] [] (124, I, J, R) v h' := by
  refine ev_go 3 (pc1 := 120) (lv1 := [.ref 53, .int w, .int f, .int 10, .long cy, xmk, .long rs, xmk, .int i, w9, xmk]) (st1 := [.int (I 53 1), .int i]) (h1 := (124, I, J, R)) rfl ?_
  refine ev_br (b1 := false) rfl rfl (xcd_nge (x := i) (y := (I 53 1)) (by first | exact b1 | omega)) ?_
  refine ev_go 4 (pc1 := 130) (lv1 := [.ref 53, .int w, .int f, .int 10, .long cy, xmk, .long rs, xmk, .int i, w9, xmk]) (st1 := [.ref 53, .long (rs * 10000000000000000)]) (h1 := (124, I, J, R)) rfl ?_
  refine ev_gf (c := 53) (t := 54) (X := R 53 0) rfl rfl (fun _ => rfl) rfl (hG 53 0 54 rfl rfl) ?_
  refine ev_go 5 (pc1 := 140) (lv1 := [.ref 53, .int w, .int f, .int 10, .long cy, xmk, .long rs, xmk, .int i, w9, xmk]) (st1 := [.int ((w * 9) + i), .ref 54, .long (rs * 10000000000000000)]) (h1 := (124, I, J, R)) rfl ?_
  refine ev_lld (n := 81) rfl rfl (fun _ => rfl) n1 m1 ?_
  refine ev_go 5 (pc1 := 148) (lv1 := [.ref 53, .int w, .int f, .int 10, .long cy, xmk, .long rs, xmk, .int i, .long ((rs * 10000000000000000) + (J 54 ((w * 9) + i).toNatClampNeg)), xmk]) (st1 := [.long (10 : Int32).toInt64, .long ((rs * 10000000000000000) + (J 54 ((w * 9) + i).toNatClampNeg))]) (h1 := (124, I, J, R)) rfl ?_
  refine ev_go 3 (pc1 := 152) (lv1 := [.ref 53, .int w, .int f, .int 10, .long cy, xmk, .long (((rs * 10000000000000000) + (J 54 ((w * 9) + i).toNatClampNeg)) - ((rs * 10000000000000000) + (J 54 ((w * 9) + i).toNatClampNeg)) / (10 : Int32).toInt64 * (10 : Int32).toInt64), xmk, .int i, .long ((rs * 10000000000000000) + (J 54 ((w * 9) + i).toNatClampNeg)), xmk]) (st1 := [.ref 53]) (h1 := (124, I, J, R)) rfl ?_
  refine ev_gf (c := 53) (t := 54) (X := R 53 0) rfl rfl (fun _ => rfl) rfl (hG 53 0 54 rfl rfl) ?_
  refine ev_go 8 (pc1 := 166) (lv1 := [.ref 53, .int w, .int f, .int 10, .long cy, xmk, .long (((rs * 10000000000000000) + (J 54 ((w * 9) + i).toNatClampNeg)) - ((rs * 10000000000000000) + (J 54 ((w * 9) + i).toNatClampNeg)) / (10 : Int32).toInt64 * (10 : Int32).toInt64), xmk, .int i, .long ((rs * 10000000000000000) + (J 54 ((w * 9) + i).toNatClampNeg)), xmk]) (st1 := [.long (10 : Int32).toInt64, .long ((rs * 10000000000000000) + (J 54 ((w * 9) + i).toNatClampNeg)), .int ((w * 9) + i), .ref 54]) (h1 := (124, I, J, R)) rfl ?_
  refine ev_go 1 (pc1 := 167) (lv1 := [.ref 53, .int w, .int f, .int 10, .long cy, xmk, .long (((rs * 10000000000000000) + (J 54 ((w * 9) + i).toNatClampNeg)) - ((rs * 10000000000000000) + (J 54 ((w * 9) + i).toNatClampNeg)) / (10 : Int32).toInt64 * (10 : Int32).toInt64), xmk, .int i, .long ((rs * 10000000000000000) + (J 54 ((w * 9) + i).toNatClampNeg)), xmk]) (st1 := [.long (((rs * 10000000000000000) + (J 54 ((w * 9) + i).toNatClampNeg)) / (10 : Int32).toInt64), .int ((w * 9) + i), .ref 54]) (h1 := (124, I, J, R)) rfl ?_
  refine ev_lst (n := 81) rfl rfl (fun _ => rfl) n2 m2 ?_
  refine ev_go 2 (pc1 := 114) (lv1 := [.ref 53, .int w, .int f, .int 10, .long cy, xmk, .long (((rs * 10000000000000000) + (J 54 ((w * 9) + i).toNatClampNeg)) - ((rs * 10000000000000000) + (J 54 ((w * 9) + i).toNatClampNeg)) / (10 : Int32).toInt64 * (10 : Int32).toInt64), xmk, .int (i + 1), .long ((rs * 10000000000000000) + (J 54 ((w * 9) + i).toNatClampNeg)), xmk]) (st1 := []) (h1 := (124, I, (uL J 54 ((w * 9) + i).toNatClampNeg (((rs * 10000000000000000) + (J 54 ((w * 9) + i).toNatClampNeg)) / (10 : Int32).toInt64)), R)) rfl ?_
  exact hk
set_option maxRecDepth 20000 in
theorem q10_e {L : Nat} {xs : Nat → Int32} {d : Nat} {I : Nat → Nat → Int32} {J : Nat → Nat → Int64} {R : Nat → Nat → Nat} {w f i : Int32} {w9 : Value} {cy rs : Int64} (hG : aGd R) (b1 : i.toInt ≥ (I 53 1).toInt) : xEv L xs d 77 114 [.ref 53, .int w, .int f, .int 10, .long cy, xmk, .long rs, xmk, .int i, w9, xmk] [] (124, I, J, R) none (124, I, J, R) := by
  refine ev_go 3 (pc1 := 120) (lv1 := [.ref 53, .int w, .int f, .int 10, .long cy, xmk, .long rs, xmk, .int i, w9, xmk]) (st1 := [.int (I 53 1), .int i]) (h1 := (124, I, J, R)) rfl ?_
  refine ev_br (b1 := true) rfl rfl (xcd_ge (x := i) (y := (I 53 1)) (by first | exact b1 | omega)) ?_
  exact ev_ret rfl rfl
theorem q10_m {L : Nat} {xs : Nat → Int32} {d : Nat} {I : Nat → Nat → Int32} {R : Nat → Nat → Nat} (hG : aGd R) {w f : Int32} {un wN : Nat} (h9 : un ≤ 9) (hw : w.toInt = wN) (w9 : wN < 9) (f0 : 0 ≤ f.toInt) (f1 : f.toInt ≤ 100) (D : Nat → Int) : ∀ (g jN : Nat) (i : Int32) (cy : Int64) (w7 : Value) (J : Nat → Nat → Int64), jN + g + 1 = un → i.toInt = (un : Int) - 1 - jN → 0 ≤ cy.toInt → cy.toInt ≤ 99 → cD J wN → (∀ j, jN ≤ j → j < un → cF J un wN j = D j) → sT 16 (cF J un wN) jN + cy.toInt * tn (16 * jN) = f.toInt * sT 16 D jN →
    ∃ (i' : Int32) (cy' : Int64) (w7' : Value) (J' : Nat → Nat → Int64), (∀ (v : Option Value) (h' : xH), xEv L xs d 77 27 [.ref 53, .int w, .int f, .int 10, .long cy', xmk, .int i', w7', xmk, xmk, xmk] [] (124, I, J', R) v h' → xEv L xs d 77 27 [.ref 53, .int w, .int f, .int 10, .long cy, xmk, .int i, w7, xmk, xmk, xmk] [] (124, I, J, R) v h') ∧ (∀ c q, ¬ (c = 54 ∧ 9 * wN ≤ q ∧ q < 9 * wN + un) → J' c q = J c q) ∧ cD J' wN ∧ i'.toInt = 0 ∧ 0 ≤ cy'.toInt ∧ cy'.toInt ≤ 99 ∧ cF J' un wN (un - 1) = D (un - 1) ∧ sT 16 (cF J' un wN) (un - 1) + cy'.toInt * tn (16 * (un - 1)) = f.toInt * sT 16 D (un - 1) := by
  intro g
  induction g with
  | zero =>
    intro jN i cy w7 J hj ei c0 c1 hD hR hS
    have e : un - 1 = jN := by omega
    rw [e]
    exact ⟨i, cy, w7, J, fun _ _ z => z, fun _ _ _ => rfl, hD, by omega, c0, c1, hR jN (Nat.le_refl _) (by omega), hS⟩
  | succ g ih =>
    intro jN i cy w7 J hj ei c0 c1 hD hR hS
    have ei' : i.toInt = ((un - 1 - jN : Nat) : Int) := by omega
    obtain ⟨a1, a2, a3⟩ := ix9 hw ei' w9 (by omega)
    obtain ⟨x0, x1⟩ := hD (un - 1 - jN) (by omega)
    have hx : (J 54 (9 * wN + (un - 1 - jN))).toInt = D jN := hR jN (Nat.le_refl _) (by omega)
    have p0 := Int.mul_nonneg x0 f0
    have p1 := Int.mul_le_mul (show (J 54 (9 * wN + (un - 1 - jN))).toInt ≤ 9999999999999999 by omega) f1 f0 (by omega)
    have ef : f.toInt64.toInt = f.toInt := i2l_t f
    have ev : (((J 54 ((w * 9) + i).toNatClampNeg) * f.toInt64) + cy).toInt = (J 54 (9 * wN + (un - 1 - jN))).toInt * f.toInt + cy.toInt := by
      rw [a3]
      have em : ((J 54 (9 * wN + (un - 1 - jN))) * f.toInt64).toInt = (J 54 (9 * wN + (un - 1 - jN))).toInt * f.toInt := by rw [l_mul (by rw [ef]; omega) (by rw [ef]; omega), ef]
      rw [l_add (by omega) (by omega), em]
    obtain ⟨vv, hvv⟩ : ∃ vv, (((J 54 ((w * 9) + i).toNatClampNeg) * f.toInt64) + cy) = vv := ⟨_, rfl⟩
    rw [hvv] at ev
    have eq := l_div (x := vv) (y := 10000000000000000) (by omega) (by rw [k64_16]; decide)
    have er := l_rem (x := vv) (y := 10000000000000000) (by omega) (by rw [k64_16]; decide)
    rw [k64_16] at eq er
    obtain ⟨qq, hqq⟩ : ∃ qq, vv / 10000000000000000 = qq := ⟨_, rfl⟩
    obtain ⟨rr, hrr⟩ : ∃ rr, vv - vv / 10000000000000000 * 10000000000000000 = rr := ⟨_, rfl⟩
    rw [hqq] at eq
    rw [hrr] at er
    obtain ⟨dx, hdx⟩ : ∃ dx, i + (-1) = dx := ⟨_, rfl⟩
    have edx : dx.toInt = (un : Int) - 1 - (jN + 1 : Nat) := by
      rw [← hdx, i_add (by rw [show (-1 : Int32).toInt = -1 from by decide]; omega) (by rw [show (-1 : Int32).toInt = -1 from by decide]; omega), show (-1 : Int32).toInt = -1 from by decide]
      omega
    obtain ⟨i', cy', w7', J', y1, y2, y3, y4, y5, y6, y7, y8⟩ := ih (jN + 1) dx qq (.long vv) (uL J 54 (9 * wN + (un - 1 - jN)) rr) (by omega) edx (by omega) (by omega) (cD_u hD (by omega) (by omega)) (fun j h1 h2 => by
        show ((uL J 54 (9 * wN + (un - 1 - jN)) _) 54 (9 * wN + (un - 1 - j))).toInt = _
        rw [uL_n _ _ (by omega)]
        exact hR j (by omega) h2) (by
        rw [sT_s, sT_s, cF_u (by omega), cF_s, tn_s, ← hx]
        refine sm_st hS ?_
        rw [tn_16]
        omega)
    refine ⟨i', cy', w7', J', fun v h z => q10_l hG (by omega) a1 a2 a1 a2 hdx ?_, fun c q hc => by rw [y2 c q hc, uL_n _ _ (by omega)], y3, y4, y5, y6, y7, y8⟩
    rw [hvv, a3, hrr, hqq]
    exact y1 v h z
theorem q10_q {L : Nat} {xs : Nat → Int32} {d : Nat} {I : Nat → Nat → Int32} {R : Nat → Nat → Nat} (hG : aGd R) {w f : Int32} {cy : Int64} {un wN : Nat} (hu : (I 53 1).toInt = un) (h9 : un ≤ 9) (hw : w.toInt = wN) (w9 : wN < 9) (O : Nat → Int) : ∀ (g iN : Nat) (i : Int32) (rs : Int64) (w9' : Value) (J : Nat → Nat → Int64), iN + g = un → i.toInt = iN → 0 ≤ rs.toInt → rs.toInt < 10 → cD J wN → (∀ j, j + iN < un → cF J un wN j = O j) → 10 * (sT 16 (cF J un wN) un - sT 16 (cF J un wN) (un - iN)) + rs.toInt * tn (16 * (un - iN)) = sT 16 O un - sT 16 O (un - iN) →
    ∃ (z : Int) (J' : Nat → Nat → Int64), xEv L xs d 77 114 [.ref 53, .int w, .int f, .int 10, .long cy, xmk, .long rs, xmk, .int i, w9', xmk] [] (124, I, J, R) none (124, I, J', R) ∧ (∀ c q, ¬ (c = 54 ∧ 9 * wN ≤ q ∧ q < 9 * wN + un) → J' c q = J c q) ∧ cD J' wN ∧ 0 ≤ z ∧ z < 10 ∧ 10 * cV J' un wN + z = sT 16 O un := by
  intro g
  induction g with
  | zero =>
    intro iN i rs w9' J hi ei r0 r1 hD hR hS
    have e : un - iN = 0 := by omega
    rw [e] at hS
    have e1 : ∀ f : Nat → Int, sT 16 f 0 = 0 := fun _ => sT_0 _ _
    rw [e1, e1, Int.sub_zero, Int.sub_zero] at hS
    have e2 : tn (16 * 0) = 1 := tn_0
    rw [e2, Int.mul_one] at hS
    exact ⟨rs.toInt, J, q10_e hG (by omega), fun _ _ _ => rfl, hD, r0, r1, hS⟩
  | succ g ih =>
    intro iN i rs w9' J hi ei r0 r1 hD hR hS
    have hi' : (i + 1).toInt = (iN + 1 : Nat) := by rw [i_add1 (by omega)]; omega
    obtain ⟨a1, a2, a3⟩ := ix9 hw ei w9 (by omega)
    obtain ⟨m, hm⟩ : ∃ m, un - iN = m + 1 := ⟨un - iN - 1, by omega⟩
    have em : un - 1 - m = iN := by omega
    have em2 : un - (iN + 1) = m := by omega
    obtain ⟨x0, x1⟩ := hD iN (by omega)
    have hx : (J 54 (9 * wN + iN)).toInt = O m := by
      have := hR m (by omega)
      unfold cF at this
      rw [em] at this
      exact this
    have ev : ((rs * 10000000000000000) + (J 54 ((w * 9) + i).toNatClampNeg)).toInt = rs.toInt * 10000000000000000 + (J 54 (9 * wN + iN)).toInt := by
      rw [a3]
      obtain ⟨pp, hpp⟩ : ∃ pp, rs * 10000000000000000 = pp := ⟨_, rfl⟩
      have em : pp.toInt = rs.toInt * 10000000000000000 := by rw [← hpp, l_mul (by rw [k64_16]; omega) (by rw [k64_16]; omega), k64_16]
      rw [hpp, l_add (by omega) (by omega), em]
    obtain ⟨vv, hvv⟩ : ∃ vv, ((rs * 10000000000000000) + (J 54 ((w * 9) + i).toNatClampNeg)) = vv := ⟨_, rfl⟩
    rw [hvv] at ev
    have eq := l_div (x := vv) (y := (10 : Int32).toInt64) (by omega) (by rw [k64_d10]; decide)
    have er := l_rem (x := vv) (y := (10 : Int32).toInt64) (by omega) (by rw [k64_d10]; decide)
    rw [k64_d10] at eq er
    obtain ⟨qq, hqq⟩ : ∃ qq, vv / (10 : Int32).toInt64 = qq := ⟨_, rfl⟩
    obtain ⟨rr, hrr⟩ : ∃ rr, vv - vv / (10 : Int32).toInt64 * (10 : Int32).toInt64 = rr := ⟨_, rfl⟩
    rw [hqq] at eq
    rw [hrr] at er
    have kk : 9 * wN + iN = 9 * wN + (un - 1 - m) := by omega
    obtain ⟨z, J', y1, y2, y3, y4, y5, y6⟩ := ih (iN + 1) (i + 1) rr (.long vv) (uL J 54 (9 * wN + iN) qq) (by omega) hi' (by omega) (by omega) (cD_u hD (by omega) (by omega)) (fun j h1 => by
        show ((uL J 54 (9 * wN + iN) qq) 54 (9 * wN + (un - 1 - j))).toInt = _
        rw [uL_n _ _ (by omega)]
        exact hR j (by omega)) (by
        rw [em2]
        rw [hm] at hS
        have u := sT_u (e := 16) (f := cF (uL J 54 (9 * wN + iN) qq) un wN) (g := cF J un wN) (m + 1) (un - (m + 1)) (fun j h1 h2 => by
          show ((uL J 54 (9 * wN + iN) qq) 54 (9 * wN + (un - 1 - j))).toInt = _
          rw [uL_n _ _ (by omega)]
          rfl)
        rw [show m + 1 + (un - (m + 1)) = un from by omega] at u
        have s1 : cF (uL J 54 (9 * wN + iN) qq) un wN m = qq.toInt := by rw [kk]; exact cF_s
        have s2 := sT_s 16 (cF (uL J 54 (9 * wN + iN) qq) un wN) m
        have s3 := sT_s 16 O m
        rw [s1] at s2
        have l1 : sT 16 (cF (uL J 54 (9 * wN + iN) qq) un wN) un - sT 16 (cF (uL J 54 (9 * wN + iN) qq) un wN) m = (sT 16 (cF J un wN) un - sT 16 (cF J un wN) (m + 1)) + qq.toInt * tn (16 * m) := by omega
        have l2 : sT 16 O un - sT 16 O m = (sT 16 O un - sT 16 O (m + 1)) + O m * tn (16 * m) := by omega
        rw [l1, l2]
        rw [tn_s] at hS
        refine dv_st hS ?_
        rw [tn_16, ← hx]
        omega)
    refine ⟨z, J', q10_d hG (by omega) a1 a2 a1 a2 ?_, fun c q hc => by rw [y2 c q hc, uL_n _ _ (by omega)], y3, y4, y5, y6⟩
    rw [hvv, hrr, hqq, a3]
    exact y1
theorem q10_run {L : Nat} {xs : Nat → Int32} {d : Nat} {I : Nat → Nat → Int32} {J : Nat → Nat → Int64} {R : Nat → Nat → Nat} (hG : aGd R) {w f : Int32} {un wN : Nat} (hu : (I 53 1).toInt = un) (h1 : 1 ≤ un) (h9 : un ≤ 9) (hw : w.toInt = wN) (w9 : wN < 9) (f0 : 0 ≤ f.toInt) (f1 : f.toInt ≤ 100) (dw : cD J wN) (ht : (J 54 (9 * wN)).toInt ≤ 1) : ∃ J', xEv L xs d 77 0 [.ref 53, .int w, .int f, .int 10, xmk, xmk, xmk, xmk, xmk, xmk, xmk] [] (124, I, J, R) none (124, I, J', R) ∧ (∀ c q, ¬ (c = 54 ∧ 9 * wN ≤ q ∧ q < 9 * wN + un) → J' c q = J c q) ∧ cD J' wN ∧ ∃ z, 0 ≤ z ∧ z < 10 ∧ 10 * cV J' un wN + z = f.toInt * cV J un wN := by
  have es : (I 53 1 - 1).toInt = (un : Int) - 1 - (0 : Nat) := by rw [i_sub (by rw [show (1 : Int32).toInt = 1 from by decide]; omega) (by rw [show (1 : Int32).toInt = 1 from by decide]; omega), show (1 : Int32).toInt = 1 from by decide]; omega
  obtain ⟨i', cy', w7', J1, x1, x2, x3, x4, x5, x6, x7, x8⟩ := q10_m (L := L) (xs := xs) (d := d) (I := I) hG h9 hw w9 f0 f1 (cF J un wN) (un - 1) 0 (I 53 1 - 1) 0 xmk J (by omega) es (by decide) (by decide) dw (fun _ _ _ => rfl) (by
    simp only [sT_0]
    rw [show (0 : Int64).toInt = 0 from by decide, Int.zero_mul, Int.mul_zero, Int.add_zero])
  obtain ⟨b1, b2, b3⟩ := ix90 hw w9
  obtain ⟨y0, y1⟩ := x3 0 (by omega)
  rw [Nat.add_zero] at y0 y1
  have e0 : cF J un wN (un - 1) = (J 54 (9 * wN)).toInt := by
    show (J 54 (9 * wN + (un - 1 - (un - 1)))).toInt = _
    rw [Nat.sub_self, Nat.add_zero]
  have e0' : cF J1 un wN (un - 1) = (J1 54 (9 * wN)).toInt := by
    show (J1 54 (9 * wN + (un - 1 - (un - 1)))).toInt = _
    rw [Nat.sub_self, Nat.add_zero]
  have eJ : (J1 54 (9 * wN)).toInt = (J 54 (9 * wN)).toInt := by rw [← e0', x7, e0]
  have p0 := Int.mul_nonneg y0 f0
  have p1 := Int.mul_le_mul (show (J1 54 (9 * wN)).toInt ≤ 1 by omega) f1 f0 (by decide)
  have ef : f.toInt64.toInt = f.toInt := i2l_t f
  have ev : (((J1 54 (w * 9).toNatClampNeg) * f.toInt64) + cy').toInt = (J1 54 (9 * wN)).toInt * f.toInt + cy'.toInt := by
    rw [b3]
    have em : ((J1 54 (9 * wN)) * f.toInt64).toInt = (J1 54 (9 * wN)).toInt * f.toInt := by rw [l_mul (by rw [ef]; omega) (by rw [ef]; omega), ef]
    rw [l_add (by omega) (by omega), em]
  obtain ⟨vv, hvv⟩ : ∃ vv, (((J1 54 (w * 9).toNatClampNeg) * f.toInt64) + cy') = vv := ⟨_, rfl⟩
  rw [hvv] at ev
  have un0 : 9 * wN = 9 * wN + (un - 1 - (un - 1)) := by omega
  obtain ⟨J2, hJ2⟩ : ∃ J2, uL J1 54 (9 * wN) vv = J2 := ⟨_, rfl⟩
  have dJ2 : cD J2 wN := by
    rw [← hJ2]
    have := cD_u (q := wN) (k := 0) x3 (x := vv) (by omega) (by omega)
    rw [Nat.add_zero] at this
    exact this
  have sO : sT 16 (cF J2 un wN) un = f.toInt * cV J un wN := by
    obtain ⟨u', hu'⟩ : ∃ u', un = u' + 1 := ⟨un - 1, by omega⟩
    have a1 : sT 16 (cF J2 un wN) (un - 1) = sT 16 (cF J1 un wN) (un - 1) := sT_c _ (fun j hj => by
      show (J2 54 (9 * wN + (un - 1 - j))).toInt = (J1 54 (9 * wN + (un - 1 - j))).toInt
      rw [← hJ2, uL_n _ _ (by omega)])
    have a2 : cF J2 un wN (un - 1) = vv.toInt := by
      show (J2 54 (9 * wN + (un - 1 - (un - 1)))).toInt = _
      rw [Nat.sub_self, Nat.add_zero, ← hJ2, uL_s]
    have a3 : sT 16 (cF J2 un wN) un = sT 16 (cF J2 un wN) (un - 1) + cF J2 un wN (un - 1) * tn (16 * (un - 1)) := by
      have := sT_s 16 (cF J2 un wN) (un - 1)
      rw [show un - 1 + 1 = un from by omega] at this
      exact this
    have a4 : cV J un wN = sT 16 (cF J un wN) (un - 1) + cF J un wN (un - 1) * tn (16 * (un - 1)) := by
      have := sT_s 16 (cF J un wN) (un - 1)
      rw [show un - 1 + 1 = un from by omega] at this
      exact this
    rw [a3, a1, a2, a4, e0, ev, eJ, Int.mul_add, ← x8, Int.add_mul, ← Int.mul_assoc, Int.mul_comm f.toInt (J 54 (9 * wN)).toInt]
    omega
  obtain ⟨z, J', y1, y2, y3, y4, y5, y6⟩ := q10_q (L := L) (xs := xs) (d := d) (I := I) (w := w) (f := f) (cy := cy') hG hu h9 hw w9 (cF J2 un wN) un 0 0 0 xmk J2 (by omega) (by decide) (by decide) (by decide) dJ2 (fun _ _ => rfl) (by
    rw [Nat.sub_zero, Int.sub_self, show (0 : Int64).toInt = 0 from by decide, Int.zero_mul, Int.mul_zero, Int.add_zero])
  refine ⟨J', q10_s hG (by omega) (by omega) (x1 _ _ (q10_x hG (by omega) b1 b2 b1 b2 ?_)), fun c q hc => ?_, y3, z, y4, y5, by rw [y6, sO]⟩
  · rw [hvv, b3, hJ2]
    exact y1
  · rw [y2 c q hc, ← hJ2, uL_n _ _ (by omega)]
    exact x2 c q hc
set_option maxRecDepth 20000 in
theorem q100_s {L : Nat} {xs : Nat → Int32} {d : Nat} {I : Nat → Nat → Int32} {J : Nat → Nat → Int64} {R : Nat → Nat → Nat} {w f : Int32} (hG : aGd R) (b1 : w.toInt ≥ 0) (b2 : w.toInt < 9) {v : Option Value} {h' : xH} (hk : xEv L xs d 77 27 [.ref 53, .int w, .int f, .int 100, .long 0, xmk, .int ((I 53 1) - 1), xmk, xmk, xmk, xmk] [] (124, I, J, R) v h') : xEv L xs d 77 0 [.ref 53, .int w, .int f, .int 100, xmk, xmk, xmk, xmk, xmk, xmk, xmk] [] (124, I, J, R) v h' := by
  refine ev_go 1 (pc1 := 1) (lv1 := [.ref 53, .int w, .int f, .int 100, xmk, xmk, xmk, xmk, xmk, xmk, xmk]) (st1 := [.int w]) (h1 := (124, I, J, R)) rfl ?_
  refine ev_br (b1 := false) rfl rfl (xcd_nlt (x := w) (y := 0) (by rw [show ((0 : Int32)).toInt = 0 from by decide]; first | exact b1 | omega)) ?_
  refine ev_go 2 (pc1 := 7) (lv1 := [.ref 53, .int w, .int f, .int 100, xmk, xmk, xmk, xmk, xmk, xmk, xmk]) (st1 := [.int 9, .int w]) (h1 := (124, I, J, R)) rfl ?_
  refine ev_br (b1 := false) rfl rfl (xcd_nge (x := w) (y := 9) (by rw [show ((9 : Int32)).toInt = 9 from by decide]; first | exact b2 | omega)) ?_
  refine ev_go 10 (pc1 := 27) (lv1 := [.ref 53, .int w, .int f, .int 100, .long 0, xmk, .int ((I 53 1) - 1), xmk, xmk, xmk, xmk]) (st1 := []) (h1 := (124, I, J, R)) rfl ?_
  exact hk
set_option maxRecDepth 20000 in
theorem q100_l {L : Nat} {xs : Nat → Int32} {d : Nat} {I : Nat → Nat → Int32} {J : Nat → Nat → Int64} {R : Nat → Nat → Nat} {w f i dx1 : Int32} {w7 : Value} {cy : Int64} (hG : aGd R) (b1 : i.toInt > 0) (n1 : 0 ≤ ((w * 9) + i).toInt) (m1 : ((w * 9) + i).toInt < 81) (n2 : 0 ≤ ((w * 9) + i).toInt) (m2 : ((w * 9) + i).toInt < 81) (i1 : i + (-1) = dx1) {v : Option Value} {h' : xH} (hk : xEv L xs d 77 27 [.ref 53, .int w, .int f, .int 100, .long ((((J 54 ((w * 9) + i).toNatClampNeg) * f.toInt64) + cy) / 10000000000000000), xmk, .int dx1, .long (((J 54 ((w * 9) + i).toNatClampNeg) * f.toInt64) + cy), xmk, xmk, xmk] [] (124, I, (uL J 54 ((w * 9) + i).toNatClampNeg ((((J 54 ((w * 9) + i).toNatClampNeg) * f.toInt64) + cy) - (((J 54 ((w * 9) + i).toNatClampNeg) * f.toInt64) + cy) / 10000000000000000 * 10000000000000000)), R) v h') : xEv L xs d 77 27 [.ref 53, .int w, .int f, .int 100, .long cy, xmk, .int i, w7, xmk, xmk, xmk] [] (124, I, J, R) v h' := by
  refine ev_go 1 (pc1 := 29) (lv1 := [.ref 53, .int w, .int f, .int 100, .long cy, xmk, .int i, w7, xmk, xmk, xmk]) (st1 := [.int i]) (h1 := (124, I, J, R)) rfl ?_
  refine ev_br (b1 := false) rfl rfl (xcd_nle (x := i) (y := 0) (by rw [show ((0 : Int32)).toInt = 0 from by decide]; first | exact b1 | omega)) ?_
  refine ev_go 1 (pc1 := 33) (lv1 := [.ref 53, .int w, .int f, .int 100, .long cy, xmk, .int i, w7, xmk, xmk, xmk]) (st1 := [.ref 53]) (h1 := (124, I, J, R)) rfl ?_
  refine ev_gf (c := 53) (t := 54) (X := R 53 0) rfl rfl (fun _ => rfl) rfl (hG 53 0 54 rfl rfl) ?_
  refine ev_go 5 (pc1 := 43) (lv1 := [.ref 53, .int w, .int f, .int 100, .long cy, xmk, .int i, w7, xmk, xmk, xmk]) (st1 := [.int ((w * 9) + i), .ref 54]) (h1 := (124, I, J, R)) rfl ?_
  refine ev_lld (n := 81) rfl rfl (fun _ => rfl) n1 m1 ?_
  refine ev_go 8 (pc1 := 57) (lv1 := [.ref 53, .int w, .int f, .int 100, .long cy, xmk, .int i, .long (((J 54 ((w * 9) + i).toNatClampNeg) * f.toInt64) + cy), xmk, xmk, xmk]) (st1 := [.long 10000000000000000, .long (((J 54 ((w * 9) + i).toNatClampNeg) * f.toInt64) + cy)]) (h1 := (124, I, J, R)) rfl ?_
  refine ev_go 3 (pc1 := 61) (lv1 := [.ref 53, .int w, .int f, .int 100, .long ((((J 54 ((w * 9) + i).toNatClampNeg) * f.toInt64) + cy) / 10000000000000000), xmk, .int i, .long (((J 54 ((w * 9) + i).toNatClampNeg) * f.toInt64) + cy), xmk, xmk, xmk]) (st1 := [.ref 53]) (h1 := (124, I, J, R)) rfl ?_
  refine ev_gf (c := 53) (t := 54) (X := R 53 0) rfl rfl (fun _ => rfl) rfl (hG 53 0 54 rfl rfl) ?_
  refine ev_go 7 (pc1 := 76) (lv1 := [.ref 53, .int w, .int f, .int 100, .long ((((J 54 ((w * 9) + i).toNatClampNeg) * f.toInt64) + cy) / 10000000000000000), xmk, .int i, .long (((J 54 ((w * 9) + i).toNatClampNeg) * f.toInt64) + cy), xmk, xmk, xmk]) (st1 := [.long 10000000000000000, .long (((J 54 ((w * 9) + i).toNatClampNeg) * f.toInt64) + cy), .int ((w * 9) + i), .ref 54]) (h1 := (124, I, J, R)) rfl ?_
  refine ev_go 1 (pc1 := 77) (lv1 := [.ref 53, .int w, .int f, .int 100, .long ((((J 54 ((w * 9) + i).toNatClampNeg) * f.toInt64) + cy) / 10000000000000000), xmk, .int i, .long (((J 54 ((w * 9) + i).toNatClampNeg) * f.toInt64) + cy), xmk, xmk, xmk]) (st1 := [.long ((((J 54 ((w * 9) + i).toNatClampNeg) * f.toInt64) + cy) - (((J 54 ((w * 9) + i).toNatClampNeg) * f.toInt64) + cy) / 10000000000000000 * 10000000000000000), .int ((w * 9) + i), .ref 54]) (h1 := (124, I, J, R)) rfl ?_
  refine ev_lst (n := 81) rfl rfl (fun _ => rfl) n2 m2 ?_
  refine ev_iinc (x := i) (y := dx1) (lv1 := [.ref 53, .int w, .int f, .int 100, .long ((((J 54 ((w * 9) + i).toNatClampNeg) * f.toInt64) + cy) / 10000000000000000), xmk, .int dx1, .long (((J 54 ((w * 9) + i).toNatClampNeg) * f.toInt64) + cy), xmk, xmk, xmk]) rfl rfl (by rw [show Int32.ofInt (-1) = (-1) from by decide]; exact i1) rfl ?_
  refine ev_go 1 (pc1 := 27) (lv1 := [.ref 53, .int w, .int f, .int 100, .long ((((J 54 ((w * 9) + i).toNatClampNeg) * f.toInt64) + cy) / 10000000000000000), xmk, .int dx1, .long (((J 54 ((w * 9) + i).toNatClampNeg) * f.toInt64) + cy), xmk, xmk, xmk]) (st1 := []) (h1 := (124, I, (uL J 54 ((w * 9) + i).toNatClampNeg ((((J 54 ((w * 9) + i).toNatClampNeg) * f.toInt64) + cy) - (((J 54 ((w * 9) + i).toNatClampNeg) * f.toInt64) + cy) / 10000000000000000 * 10000000000000000)), R)) rfl ?_
  exact hk
set_option maxRecDepth 20000 in
theorem q100_x {L : Nat} {xs : Nat → Int32} {d : Nat} {I : Nat → Nat → Int32} {J : Nat → Nat → Int64} {R : Nat → Nat → Nat} {w f i : Int32} {w7 : Value} {cy : Int64} (hG : aGd R) (b1 : i.toInt ≤ 0) (n1 : 0 ≤ (w * 9).toInt) (m1 : (w * 9).toInt < 81) (n2 : 0 ≤ (w * 9).toInt) (m2 : (w * 9).toInt < 81) {v : Option Value} {h' : xH} (hk : xEv L xs d 77 114 [.ref 53, .int w, .int f, .int 100, .long cy, xmk, .long 0, xmk, .int 0, xmk, xmk] [] (124, I, (uL J 54 (w * 9).toNatClampNeg (((J 54 (w * 9).toNatClampNeg) * f.toInt64) + cy)), R) v h') : xEv L xs d 77 27 [.ref 53, .int w, .int f, .int 100, .long cy, xmk, .int i, w7, xmk, xmk, xmk] [] (124, I, J, R) v h' := by
  refine ev_go 1 (pc1 := 29) (lv1 := [.ref 53, .int w, .int f, .int 100, .long cy, xmk, .int i, w7, xmk, xmk, xmk]) (st1 := [.int i]) (h1 := (124, I, J, R)) rfl ?_
  refine ev_br (b1 := true) rfl rfl (xcd_le (x := i) (y := 0) (by rw [show ((0 : Int32)).toInt = 0 from by decide]; first | exact b1 | omega)) ?_
  refine ev_go 1 (pc1 := 85) (lv1 := [.ref 53, .int w, .int f, .int 100, .long cy, xmk, .int i, w7, xmk, xmk, xmk]) (st1 := [.ref 53]) (h1 := (124, I, J, R)) rfl ?_
  refine ev_gf (c := 53) (t := 54) (X := R 53 0) rfl rfl (fun _ => rfl) rfl (hG 53 0 54 rfl rfl) ?_
  refine ev_go 4 (pc1 := 93) (lv1 := [.ref 53, .int w, .int f, .int 100, .long cy, xmk, .int i, w7, xmk, xmk, xmk]) (st1 := [.ref 53, .int (w * 9), .ref 54]) (h1 := (124, I, J, R)) rfl ?_
  refine ev_gf (c := 53) (t := 54) (X := R 53 0) rfl rfl (fun _ => rfl) rfl (hG 53 0 54 rfl rfl) ?_
  refine ev_go 3 (pc1 := 100) (lv1 := [.ref 53, .int w, .int f, .int 100, .long cy, xmk, .int i, w7, xmk, xmk, xmk]) (st1 := [.int (w * 9), .ref 54, .int (w * 9), .ref 54]) (h1 := (124, I, J, R)) rfl ?_
  refine ev_lld (n := 81) rfl rfl (fun _ => rfl) n1 m1 ?_
  refine ev_go 5 (pc1 := 107) (lv1 := [.ref 53, .int w, .int f, .int 100, .long cy, xmk, .int i, w7, xmk, xmk, xmk]) (st1 := [.long (((J 54 (w * 9).toNatClampNeg) * f.toInt64) + cy), .int (w * 9), .ref 54]) (h1 := (124, I, J, R)) rfl ?_
  refine ev_lst (n := 81) rfl rfl (fun _ => rfl) n2 m2 ?_
  refine ev_go 4 (pc1 := 114) (lv1 := [.ref 53, .int w, .int f, .int 100, .long cy, xmk, .long 0, xmk, .int 0, xmk, xmk]) (st1 := []) (h1 := (124, I, (uL J 54 (w * 9).toNatClampNeg (((J 54 (w * 9).toNatClampNeg) * f.toInt64) + cy)), R)) rfl ?_
  exact hk
set_option maxRecDepth 20000 in
theorem q100_d {L : Nat} {xs : Nat → Int32} {d : Nat} {I : Nat → Nat → Int32} {J : Nat → Nat → Int64} {R : Nat → Nat → Nat} {w f i : Int32} {w9 : Value} {cy rs : Int64} (hG : aGd R) (b1 : i.toInt < (I 53 1).toInt) (n1 : 0 ≤ ((w * 9) + i).toInt) (m1 : ((w * 9) + i).toInt < 81) (n2 : 0 ≤ ((w * 9) + i).toInt) (m2 : ((w * 9) + i).toInt < 81) {v : Option Value} {h' : xH} (hk : xEv L xs d 77 114 [.ref 53, .int w, .int f, .int 100, .long cy, xmk, .long (((rs * 10000000000000000) + (J 54 ((w * 9) + i).toNatClampNeg)) - ((rs * 10000000000000000) + (J 54 ((w * 9) + i).toNatClampNeg)) / (100 : Int32).toInt64 * (100 : Int32).toInt64), xmk, .int (i + 1), .long ((rs * 10000000000000000) + (J 54 ((w * 9) + i).toNatClampNeg)), xmk] [] (124, I, (uL J 54 ((w * 9) + i).toNatClampNeg (((rs * 10000000000000000) + (J 54 ((w * 9) + i).toNatClampNeg)) / (100 : Int32).toInt64)), R) v h') : xEv L xs d 77 114 [.ref 53, .int w, .int f, .int 100, .long cy, xmk, .long rs, xmk, .int i, w9, xmk] [] (124, I, J, R) v h' := by
  refine ev_go 3 (pc1 := 120) (lv1 := [.ref 53, .int w, .int f, .int 100, .long cy, xmk, .long rs, xmk, .int i, w9, xmk]) (st1 := [.int (I 53 1), .int i]) (h1 := (124, I, J, R)) rfl ?_
  refine ev_br (b1 := false) rfl rfl (xcd_nge (x := i) (y := (I 53 1)) (by first | exact b1 | omega)) ?_
  refine ev_go 4 (pc1 := 130) (lv1 := [.ref 53, .int w, .int f, .int 100, .long cy, xmk, .long rs, xmk, .int i, w9, xmk]) (st1 := [.ref 53, .long (rs * 10000000000000000)]) (h1 := (124, I, J, R)) rfl ?_
  refine ev_gf (c := 53) (t := 54) (X := R 53 0) rfl rfl (fun _ => rfl) rfl (hG 53 0 54 rfl rfl) ?_
  refine ev_go 5 (pc1 := 140) (lv1 := [.ref 53, .int w, .int f, .int 100, .long cy, xmk, .long rs, xmk, .int i, w9, xmk]) (st1 := [.int ((w * 9) + i), .ref 54, .long (rs * 10000000000000000)]) (h1 := (124, I, J, R)) rfl ?_
  refine ev_lld (n := 81) rfl rfl (fun _ => rfl) n1 m1 ?_
  refine ev_go 5 (pc1 := 148) (lv1 := [.ref 53, .int w, .int f, .int 100, .long cy, xmk, .long rs, xmk, .int i, .long ((rs * 10000000000000000) + (J 54 ((w * 9) + i).toNatClampNeg)), xmk]) (st1 := [.long (100 : Int32).toInt64, .long ((rs * 10000000000000000) + (J 54 ((w * 9) + i).toNatClampNeg))]) (h1 := (124, I, J, R)) rfl ?_
  refine ev_go 3 (pc1 := 152) (lv1 := [.ref 53, .int w, .int f, .int 100, .long cy, xmk, .long (((rs * 10000000000000000) + (J 54 ((w * 9) + i).toNatClampNeg)) - ((rs * 10000000000000000) + (J 54 ((w * 9) + i).toNatClampNeg)) / (100 : Int32).toInt64 * (100 : Int32).toInt64), xmk, .int i, .long ((rs * 10000000000000000) + (J 54 ((w * 9) + i).toNatClampNeg)), xmk]) (st1 := [.ref 53]) (h1 := (124, I, J, R)) rfl ?_
  refine ev_gf (c := 53) (t := 54) (X := R 53 0) rfl rfl (fun _ => rfl) rfl (hG 53 0 54 rfl rfl) ?_
  refine ev_go 8 (pc1 := 166) (lv1 := [.ref 53, .int w, .int f, .int 100, .long cy, xmk, .long (((rs * 10000000000000000) + (J 54 ((w * 9) + i).toNatClampNeg)) - ((rs * 10000000000000000) + (J 54 ((w * 9) + i).toNatClampNeg)) / (100 : Int32).toInt64 * (100 : Int32).toInt64), xmk, .int i, .long ((rs * 10000000000000000) + (J 54 ((w * 9) + i).toNatClampNeg)), xmk]) (st1 := [.long (100 : Int32).toInt64, .long ((rs * 10000000000000000) + (J 54 ((w * 9) + i).toNatClampNeg)), .int ((w * 9) + i), .ref 54]) (h1 := (124, I, J, R)) rfl ?_
  refine ev_go 1 (pc1 := 167) (lv1 := [.ref 53, .int w, .int f, .int 100, .long cy, xmk, .long (((rs * 10000000000000000) + (J 54 ((w * 9) + i).toNatClampNeg)) - ((rs * 10000000000000000) + (J 54 ((w * 9) + i).toNatClampNeg)) / (100 : Int32).toInt64 * (100 : Int32).toInt64), xmk, .int i, .long ((rs * 10000000000000000) + (J 54 ((w * 9) + i).toNatClampNeg)), xmk]) (st1 := [.long (((rs * 10000000000000000) + (J 54 ((w * 9) + i).toNatClampNeg)) / (100 : Int32).toInt64), .int ((w * 9) + i), .ref 54]) (h1 := (124, I, J, R)) rfl ?_
  refine ev_lst (n := 81) rfl rfl (fun _ => rfl) n2 m2 ?_
  refine ev_go 2 (pc1 := 114) (lv1 := [.ref 53, .int w, .int f, .int 100, .long cy, xmk, .long (((rs * 10000000000000000) + (J 54 ((w * 9) + i).toNatClampNeg)) - ((rs * 10000000000000000) + (J 54 ((w * 9) + i).toNatClampNeg)) / (100 : Int32).toInt64 * (100 : Int32).toInt64), xmk, .int (i + 1), .long ((rs * 10000000000000000) + (J 54 ((w * 9) + i).toNatClampNeg)), xmk]) (st1 := []) (h1 := (124, I, (uL J 54 ((w * 9) + i).toNatClampNeg (((rs * 10000000000000000) + (J 54 ((w * 9) + i).toNatClampNeg)) / (100 : Int32).toInt64)), R)) rfl ?_
  exact hk
set_option maxRecDepth 20000 in
theorem q100_e {L : Nat} {xs : Nat → Int32} {d : Nat} {I : Nat → Nat → Int32} {J : Nat → Nat → Int64} {R : Nat → Nat → Nat} {w f i : Int32} {w9 : Value} {cy rs : Int64} (hG : aGd R) (b1 : i.toInt ≥ (I 53 1).toInt) : xEv L xs d 77 114 [.ref 53, .int w, .int f, .int 100, .long cy, xmk, .long rs, xmk, .int i, w9, xmk] [] (124, I, J, R) none (124, I, J, R) := by
  refine ev_go 3 (pc1 := 120) (lv1 := [.ref 53, .int w, .int f, .int 100, .long cy, xmk, .long rs, xmk, .int i, w9, xmk]) (st1 := [.int (I 53 1), .int i]) (h1 := (124, I, J, R)) rfl ?_
  refine ev_br (b1 := true) rfl rfl (xcd_ge (x := i) (y := (I 53 1)) (by first | exact b1 | omega)) ?_
  exact ev_ret rfl rfl
theorem q100_m {L : Nat} {xs : Nat → Int32} {d : Nat} {I : Nat → Nat → Int32} {R : Nat → Nat → Nat} (hG : aGd R) {w f : Int32} {un wN : Nat} (h9 : un ≤ 9) (hw : w.toInt = wN) (w9 : wN < 9) (f0 : 0 ≤ f.toInt) (f1 : f.toInt ≤ 100) (D : Nat → Int) : ∀ (g jN : Nat) (i : Int32) (cy : Int64) (w7 : Value) (J : Nat → Nat → Int64), jN + g + 1 = un → i.toInt = (un : Int) - 1 - jN → 0 ≤ cy.toInt → cy.toInt ≤ 99 → cD J wN → (∀ j, jN ≤ j → j < un → cF J un wN j = D j) → sT 16 (cF J un wN) jN + cy.toInt * tn (16 * jN) = f.toInt * sT 16 D jN →
    ∃ (i' : Int32) (cy' : Int64) (w7' : Value) (J' : Nat → Nat → Int64), (∀ (v : Option Value) (h' : xH), xEv L xs d 77 27 [.ref 53, .int w, .int f, .int 100, .long cy', xmk, .int i', w7', xmk, xmk, xmk] [] (124, I, J', R) v h' → xEv L xs d 77 27 [.ref 53, .int w, .int f, .int 100, .long cy, xmk, .int i, w7, xmk, xmk, xmk] [] (124, I, J, R) v h') ∧ (∀ c q, ¬ (c = 54 ∧ 9 * wN ≤ q ∧ q < 9 * wN + un) → J' c q = J c q) ∧ cD J' wN ∧ i'.toInt = 0 ∧ 0 ≤ cy'.toInt ∧ cy'.toInt ≤ 99 ∧ cF J' un wN (un - 1) = D (un - 1) ∧ sT 16 (cF J' un wN) (un - 1) + cy'.toInt * tn (16 * (un - 1)) = f.toInt * sT 16 D (un - 1) := by
  intro g
  induction g with
  | zero =>
    intro jN i cy w7 J hj ei c0 c1 hD hR hS
    have e : un - 1 = jN := by omega
    rw [e]
    exact ⟨i, cy, w7, J, fun _ _ z => z, fun _ _ _ => rfl, hD, by omega, c0, c1, hR jN (Nat.le_refl _) (by omega), hS⟩
  | succ g ih =>
    intro jN i cy w7 J hj ei c0 c1 hD hR hS
    have ei' : i.toInt = ((un - 1 - jN : Nat) : Int) := by omega
    obtain ⟨a1, a2, a3⟩ := ix9 hw ei' w9 (by omega)
    obtain ⟨x0, x1⟩ := hD (un - 1 - jN) (by omega)
    have hx : (J 54 (9 * wN + (un - 1 - jN))).toInt = D jN := hR jN (Nat.le_refl _) (by omega)
    have p0 := Int.mul_nonneg x0 f0
    have p1 := Int.mul_le_mul (show (J 54 (9 * wN + (un - 1 - jN))).toInt ≤ 9999999999999999 by omega) f1 f0 (by omega)
    have ef : f.toInt64.toInt = f.toInt := i2l_t f
    have ev : (((J 54 ((w * 9) + i).toNatClampNeg) * f.toInt64) + cy).toInt = (J 54 (9 * wN + (un - 1 - jN))).toInt * f.toInt + cy.toInt := by
      rw [a3]
      have em : ((J 54 (9 * wN + (un - 1 - jN))) * f.toInt64).toInt = (J 54 (9 * wN + (un - 1 - jN))).toInt * f.toInt := by rw [l_mul (by rw [ef]; omega) (by rw [ef]; omega), ef]
      rw [l_add (by omega) (by omega), em]
    obtain ⟨vv, hvv⟩ : ∃ vv, (((J 54 ((w * 9) + i).toNatClampNeg) * f.toInt64) + cy) = vv := ⟨_, rfl⟩
    rw [hvv] at ev
    have eq := l_div (x := vv) (y := 10000000000000000) (by omega) (by rw [k64_16]; decide)
    have er := l_rem (x := vv) (y := 10000000000000000) (by omega) (by rw [k64_16]; decide)
    rw [k64_16] at eq er
    obtain ⟨qq, hqq⟩ : ∃ qq, vv / 10000000000000000 = qq := ⟨_, rfl⟩
    obtain ⟨rr, hrr⟩ : ∃ rr, vv - vv / 10000000000000000 * 10000000000000000 = rr := ⟨_, rfl⟩
    rw [hqq] at eq
    rw [hrr] at er
    obtain ⟨dx, hdx⟩ : ∃ dx, i + (-1) = dx := ⟨_, rfl⟩
    have edx : dx.toInt = (un : Int) - 1 - (jN + 1 : Nat) := by
      rw [← hdx, i_add (by rw [show (-1 : Int32).toInt = -1 from by decide]; omega) (by rw [show (-1 : Int32).toInt = -1 from by decide]; omega), show (-1 : Int32).toInt = -1 from by decide]
      omega
    obtain ⟨i', cy', w7', J', y1, y2, y3, y4, y5, y6, y7, y8⟩ := ih (jN + 1) dx qq (.long vv) (uL J 54 (9 * wN + (un - 1 - jN)) rr) (by omega) edx (by omega) (by omega) (cD_u hD (by omega) (by omega)) (fun j h1 h2 => by
        show ((uL J 54 (9 * wN + (un - 1 - jN)) _) 54 (9 * wN + (un - 1 - j))).toInt = _
        rw [uL_n _ _ (by omega)]
        exact hR j (by omega) h2) (by
        rw [sT_s, sT_s, cF_u (by omega), cF_s, tn_s, ← hx]
        refine sm_st hS ?_
        rw [tn_16]
        omega)
    refine ⟨i', cy', w7', J', fun v h z => q100_l hG (by omega) a1 a2 a1 a2 hdx ?_, fun c q hc => by rw [y2 c q hc, uL_n _ _ (by omega)], y3, y4, y5, y6, y7, y8⟩
    rw [hvv, a3, hrr, hqq]
    exact y1 v h z
theorem q100_q {L : Nat} {xs : Nat → Int32} {d : Nat} {I : Nat → Nat → Int32} {R : Nat → Nat → Nat} (hG : aGd R) {w f : Int32} {cy : Int64} {un wN : Nat} (hu : (I 53 1).toInt = un) (h9 : un ≤ 9) (hw : w.toInt = wN) (w9 : wN < 9) (O : Nat → Int) : ∀ (g iN : Nat) (i : Int32) (rs : Int64) (w9' : Value) (J : Nat → Nat → Int64), iN + g = un → i.toInt = iN → 0 ≤ rs.toInt → rs.toInt < 100 → cD J wN → (∀ j, j + iN < un → cF J un wN j = O j) → 100 * (sT 16 (cF J un wN) un - sT 16 (cF J un wN) (un - iN)) + rs.toInt * tn (16 * (un - iN)) = sT 16 O un - sT 16 O (un - iN) →
    ∃ (z : Int) (J' : Nat → Nat → Int64), xEv L xs d 77 114 [.ref 53, .int w, .int f, .int 100, .long cy, xmk, .long rs, xmk, .int i, w9', xmk] [] (124, I, J, R) none (124, I, J', R) ∧ (∀ c q, ¬ (c = 54 ∧ 9 * wN ≤ q ∧ q < 9 * wN + un) → J' c q = J c q) ∧ cD J' wN ∧ 0 ≤ z ∧ z < 100 ∧ 100 * cV J' un wN + z = sT 16 O un := by
  intro g
  induction g with
  | zero =>
    intro iN i rs w9' J hi ei r0 r1 hD hR hS
    have e : un - iN = 0 := by omega
    rw [e] at hS
    have e1 : ∀ f : Nat → Int, sT 16 f 0 = 0 := fun _ => sT_0 _ _
    rw [e1, e1, Int.sub_zero, Int.sub_zero] at hS
    have e2 : tn (16 * 0) = 1 := tn_0
    rw [e2, Int.mul_one] at hS
    exact ⟨rs.toInt, J, q100_e hG (by omega), fun _ _ _ => rfl, hD, r0, r1, hS⟩
  | succ g ih =>
    intro iN i rs w9' J hi ei r0 r1 hD hR hS
    have hi' : (i + 1).toInt = (iN + 1 : Nat) := by rw [i_add1 (by omega)]; omega
    obtain ⟨a1, a2, a3⟩ := ix9 hw ei w9 (by omega)
    obtain ⟨m, hm⟩ : ∃ m, un - iN = m + 1 := ⟨un - iN - 1, by omega⟩
    have em : un - 1 - m = iN := by omega
    have em2 : un - (iN + 1) = m := by omega
    obtain ⟨x0, x1⟩ := hD iN (by omega)
    have hx : (J 54 (9 * wN + iN)).toInt = O m := by
      have := hR m (by omega)
      unfold cF at this
      rw [em] at this
      exact this
    have ev : ((rs * 10000000000000000) + (J 54 ((w * 9) + i).toNatClampNeg)).toInt = rs.toInt * 10000000000000000 + (J 54 (9 * wN + iN)).toInt := by
      rw [a3]
      obtain ⟨pp, hpp⟩ : ∃ pp, rs * 10000000000000000 = pp := ⟨_, rfl⟩
      have em : pp.toInt = rs.toInt * 10000000000000000 := by rw [← hpp, l_mul (by rw [k64_16]; omega) (by rw [k64_16]; omega), k64_16]
      rw [hpp, l_add (by omega) (by omega), em]
    obtain ⟨vv, hvv⟩ : ∃ vv, ((rs * 10000000000000000) + (J 54 ((w * 9) + i).toNatClampNeg)) = vv := ⟨_, rfl⟩
    rw [hvv] at ev
    have eq := l_div (x := vv) (y := (100 : Int32).toInt64) (by omega) (by rw [k64_d100]; decide)
    have er := l_rem (x := vv) (y := (100 : Int32).toInt64) (by omega) (by rw [k64_d100]; decide)
    rw [k64_d100] at eq er
    obtain ⟨qq, hqq⟩ : ∃ qq, vv / (100 : Int32).toInt64 = qq := ⟨_, rfl⟩
    obtain ⟨rr, hrr⟩ : ∃ rr, vv - vv / (100 : Int32).toInt64 * (100 : Int32).toInt64 = rr := ⟨_, rfl⟩
    rw [hqq] at eq
    rw [hrr] at er
    have kk : 9 * wN + iN = 9 * wN + (un - 1 - m) := by omega
    obtain ⟨z, J', y1, y2, y3, y4, y5, y6⟩ := ih (iN + 1) (i + 1) rr (.long vv) (uL J 54 (9 * wN + iN) qq) (by omega) hi' (by omega) (by omega) (cD_u hD (by omega) (by omega)) (fun j h1 => by
        show ((uL J 54 (9 * wN + iN) qq) 54 (9 * wN + (un - 1 - j))).toInt = _
        rw [uL_n _ _ (by omega)]
        exact hR j (by omega)) (by
        rw [em2]
        rw [hm] at hS
        have u := sT_u (e := 16) (f := cF (uL J 54 (9 * wN + iN) qq) un wN) (g := cF J un wN) (m + 1) (un - (m + 1)) (fun j h1 h2 => by
          show ((uL J 54 (9 * wN + iN) qq) 54 (9 * wN + (un - 1 - j))).toInt = _
          rw [uL_n _ _ (by omega)]
          rfl)
        rw [show m + 1 + (un - (m + 1)) = un from by omega] at u
        have s1 : cF (uL J 54 (9 * wN + iN) qq) un wN m = qq.toInt := by rw [kk]; exact cF_s
        have s2 := sT_s 16 (cF (uL J 54 (9 * wN + iN) qq) un wN) m
        have s3 := sT_s 16 O m
        rw [s1] at s2
        have l1 : sT 16 (cF (uL J 54 (9 * wN + iN) qq) un wN) un - sT 16 (cF (uL J 54 (9 * wN + iN) qq) un wN) m = (sT 16 (cF J un wN) un - sT 16 (cF J un wN) (m + 1)) + qq.toInt * tn (16 * m) := by omega
        have l2 : sT 16 O un - sT 16 O m = (sT 16 O un - sT 16 O (m + 1)) + O m * tn (16 * m) := by omega
        rw [l1, l2]
        rw [tn_s] at hS
        refine dv_st hS ?_
        rw [tn_16, ← hx]
        omega)
    refine ⟨z, J', q100_d hG (by omega) a1 a2 a1 a2 ?_, fun c q hc => by rw [y2 c q hc, uL_n _ _ (by omega)], y3, y4, y5, y6⟩
    rw [hvv, hrr, hqq, a3]
    exact y1
theorem q100_run {L : Nat} {xs : Nat → Int32} {d : Nat} {I : Nat → Nat → Int32} {J : Nat → Nat → Int64} {R : Nat → Nat → Nat} (hG : aGd R) {w f : Int32} {un wN : Nat} (hu : (I 53 1).toInt = un) (h1 : 1 ≤ un) (h9 : un ≤ 9) (hw : w.toInt = wN) (w9 : wN < 9) (f0 : 0 ≤ f.toInt) (f1 : f.toInt ≤ 100) (dw : cD J wN) (ht : (J 54 (9 * wN)).toInt ≤ 1) : ∃ J', xEv L xs d 77 0 [.ref 53, .int w, .int f, .int 100, xmk, xmk, xmk, xmk, xmk, xmk, xmk] [] (124, I, J, R) none (124, I, J', R) ∧ (∀ c q, ¬ (c = 54 ∧ 9 * wN ≤ q ∧ q < 9 * wN + un) → J' c q = J c q) ∧ cD J' wN ∧ ∃ z, 0 ≤ z ∧ z < 100 ∧ 100 * cV J' un wN + z = f.toInt * cV J un wN := by
  have es : (I 53 1 - 1).toInt = (un : Int) - 1 - (0 : Nat) := by rw [i_sub (by rw [show (1 : Int32).toInt = 1 from by decide]; omega) (by rw [show (1 : Int32).toInt = 1 from by decide]; omega), show (1 : Int32).toInt = 1 from by decide]; omega
  obtain ⟨i', cy', w7', J1, x1, x2, x3, x4, x5, x6, x7, x8⟩ := q100_m (L := L) (xs := xs) (d := d) (I := I) hG h9 hw w9 f0 f1 (cF J un wN) (un - 1) 0 (I 53 1 - 1) 0 xmk J (by omega) es (by decide) (by decide) dw (fun _ _ _ => rfl) (by
    simp only [sT_0]
    rw [show (0 : Int64).toInt = 0 from by decide, Int.zero_mul, Int.mul_zero, Int.add_zero])
  obtain ⟨b1, b2, b3⟩ := ix90 hw w9
  obtain ⟨y0, y1⟩ := x3 0 (by omega)
  rw [Nat.add_zero] at y0 y1
  have e0 : cF J un wN (un - 1) = (J 54 (9 * wN)).toInt := by
    show (J 54 (9 * wN + (un - 1 - (un - 1)))).toInt = _
    rw [Nat.sub_self, Nat.add_zero]
  have e0' : cF J1 un wN (un - 1) = (J1 54 (9 * wN)).toInt := by
    show (J1 54 (9 * wN + (un - 1 - (un - 1)))).toInt = _
    rw [Nat.sub_self, Nat.add_zero]
  have eJ : (J1 54 (9 * wN)).toInt = (J 54 (9 * wN)).toInt := by rw [← e0', x7, e0]
  have p0 := Int.mul_nonneg y0 f0
  have p1 := Int.mul_le_mul (show (J1 54 (9 * wN)).toInt ≤ 1 by omega) f1 f0 (by decide)
  have ef : f.toInt64.toInt = f.toInt := i2l_t f
  have ev : (((J1 54 (w * 9).toNatClampNeg) * f.toInt64) + cy').toInt = (J1 54 (9 * wN)).toInt * f.toInt + cy'.toInt := by
    rw [b3]
    have em : ((J1 54 (9 * wN)) * f.toInt64).toInt = (J1 54 (9 * wN)).toInt * f.toInt := by rw [l_mul (by rw [ef]; omega) (by rw [ef]; omega), ef]
    rw [l_add (by omega) (by omega), em]
  obtain ⟨vv, hvv⟩ : ∃ vv, (((J1 54 (w * 9).toNatClampNeg) * f.toInt64) + cy') = vv := ⟨_, rfl⟩
  rw [hvv] at ev
  have un0 : 9 * wN = 9 * wN + (un - 1 - (un - 1)) := by omega
  obtain ⟨J2, hJ2⟩ : ∃ J2, uL J1 54 (9 * wN) vv = J2 := ⟨_, rfl⟩
  have dJ2 : cD J2 wN := by
    rw [← hJ2]
    have := cD_u (q := wN) (k := 0) x3 (x := vv) (by omega) (by omega)
    rw [Nat.add_zero] at this
    exact this
  have sO : sT 16 (cF J2 un wN) un = f.toInt * cV J un wN := by
    obtain ⟨u', hu'⟩ : ∃ u', un = u' + 1 := ⟨un - 1, by omega⟩
    have a1 : sT 16 (cF J2 un wN) (un - 1) = sT 16 (cF J1 un wN) (un - 1) := sT_c _ (fun j hj => by
      show (J2 54 (9 * wN + (un - 1 - j))).toInt = (J1 54 (9 * wN + (un - 1 - j))).toInt
      rw [← hJ2, uL_n _ _ (by omega)])
    have a2 : cF J2 un wN (un - 1) = vv.toInt := by
      show (J2 54 (9 * wN + (un - 1 - (un - 1)))).toInt = _
      rw [Nat.sub_self, Nat.add_zero, ← hJ2, uL_s]
    have a3 : sT 16 (cF J2 un wN) un = sT 16 (cF J2 un wN) (un - 1) + cF J2 un wN (un - 1) * tn (16 * (un - 1)) := by
      have := sT_s 16 (cF J2 un wN) (un - 1)
      rw [show un - 1 + 1 = un from by omega] at this
      exact this
    have a4 : cV J un wN = sT 16 (cF J un wN) (un - 1) + cF J un wN (un - 1) * tn (16 * (un - 1)) := by
      have := sT_s 16 (cF J un wN) (un - 1)
      rw [show un - 1 + 1 = un from by omega] at this
      exact this
    rw [a3, a1, a2, a4, e0, ev, eJ, Int.mul_add, ← x8, Int.add_mul, ← Int.mul_assoc, Int.mul_comm f.toInt (J 54 (9 * wN)).toInt]
    omega
  obtain ⟨z, J', y1, y2, y3, y4, y5, y6⟩ := q100_q (L := L) (xs := xs) (d := d) (I := I) (w := w) (f := f) (cy := cy') hG hu h9 hw w9 (cF J2 un wN) un 0 0 0 xmk J2 (by omega) (by decide) (by decide) (by decide) dJ2 (fun _ _ => rfl) (by
    rw [Nat.sub_zero, Int.sub_self, show (0 : Int64).toInt = 0 from by decide, Int.zero_mul, Int.mul_zero, Int.add_zero])
  refine ⟨J', q100_s hG (by omega) (by omega) (x1 _ _ (q100_x hG (by omega) b1 b2 b1 b2 ?_)), fun c q hc => ?_, y3, z, y4, y5, by rw [y6, sO]⟩
  · rw [hvv, b3, hJ2]
    exact y1
  · rw [y2 c q hc, ← hJ2, uL_n _ _ (by omega)]
    exact x2 c q hc
/-- the rows are in order -/
def cG (J : Nat → Nat → Int64) (un : Nat) : Prop := (∀ q, q < 9 → cD J q) ∧ (∀ q, q < 9 → cZ J un q)
def cK (J J' : Nat → Nat → Int64) (un f : Nat) : Prop := ∀ c q, ¬ (c = 54 ∧ 9 * f ≤ q ∧ q < 9 * f + un) → J' c q = J c q
theorem cG_f {J J' : Nat → Nat → Int64} {un f : Nat} (hu : un ≤ 9) (h : cG J un) (k : cK J J' un f) (hd : cD J' f) : cG J' un := by
  refine ⟨fun q hq => ?_, fun q hq => ?_⟩
  · by_cases e : q = f
    · rw [e]
      exact hd
    · exact cD_e (fun i hi => k _ _ (by omega)) (h.1 q hq)
  · exact cZ_e (fun i h1 hi => k _ _ (by omega)) (h.2 q hq)
theorem cV_k {J J' : Nat → Nat → Int64} {un f q : Nat} (hu : un ≤ 9) (k : cK J J' un f) (hne : q ≠ f) : cV J' un q = cV J un q := cV_e (fun i hi => k _ _ (by omega)) hu
theorem cV_t {J : Nat → Nat → Int64} {un q : Nat} (h1 : 1 ≤ un) : cV J un q = sT 16 (cF J un q) (un - 1) + (J 54 (9 * q)).toInt * tn (16 * (un - 1)) := by
  have s := sT_s 16 (cF J un q) (un - 1)
  rw [show un - 1 + 1 = un from by omega] at s
  have e : cF J un q (un - 1) = (J 54 (9 * q)).toInt := by
    show (J 54 (9 * q + (un - 1 - (un - 1)))).toInt = _
    rw [Nat.sub_self, Nat.add_zero]
  rw [e] at s
  exact s
/-- a chance of at most 1 has at most 1 ahead of the point -/
theorem cV_1 {J : Nat → Nat → Int64} {un q : Nat} (h1 : 1 ≤ un) (h9 : un ≤ 9) (hd : cD J q) (h : cV J un q ≤ tn (16 * (un - 1))) : (J 54 (9 * q)).toInt ≤ 1 := by
  have t := cV_t (J := J) (un := un) (q := q) h1
  have b := sT_b (e := 16) (f := cF J un q) (un - 1) (fun i hi => cF_d hd h9 i (by omega))
  have hp := tn_pos (16 * (un - 1))
  by_cases g : (J 54 (9 * q)).toInt ≤ 1
  · exact g
  · have m := Int.mul_le_mul_of_nonneg_right (show (2 : Int) ≤ (J 54 (9 * q)).toInt by omega) (Int.le_of_lt hp)
    omega
set_option maxRecDepth 20000 in
theorem qr_s {L : Nat} {xs : Nat → Int32} {d : Nat} {I : Nat → Nat → Int32} {J : Nat → Nat → Int64} {R : Nat → Nat → Nat} {J1 : Nat → Nat → Int64} {J2 : Nat → Nat → Int64} {J3 : Nat → Nat → Int64} {J4 : Nat → Nat → Int64} {lo hi t : Int32} (hG : aGd R) (c1 : xEv L xs d 75 0 [.ref 53, .int hi, .int 7] [] (124, I, J, R) none (124, I, J1, R)) (c2 : xEv L xs d 76 0 [.ref 53, .int lo, .int 7, xmk, xmk, xmk, xmk, xmk] [] (124, I, J1, R) none (124, I, J2, R)) (c3 : xEv L xs d 77 0 [.ref 53, .int 7, .int t, .int 10, xmk, xmk, xmk, xmk, xmk, xmk, xmk] [] (124, I, J2, R) none (124, I, J3, R)) (c4 : xEv L xs d 78 0 [.ref 53, .int 7, .int lo, xmk, xmk, xmk, xmk, xmk] [] (124, I, J3, R) none (124, I, J4, R)) : xEv L xs (d + 1) 74 0 [.ref 53, .int lo, .int hi, .int t] [] (124, I, J, R) none (124, I, J4, R) := by
  refine ev_go 3 (pc1 := 4) (lv1 := [.ref 53, .int lo, .int hi, .int t]) (st1 := [.int 7, .int hi, .ref 53]) (h1 := (124, I, J, R)) rfl ?_
  refine ev_call (v1 := none) (h1 := (124, I, J1, R)) rfl rfl c1 ?_
  refine ev_go 3 (pc1 := 11) (lv1 := [.ref 53, .int lo, .int hi, .int t]) (st1 := [.int 7, .int lo, .ref 53]) (h1 := (124, I, J1, R)) rfl ?_
  refine ev_call (v1 := none) (h1 := (124, I, J2, R)) rfl rfl c2 ?_
  refine ev_go 4 (pc1 := 20) (lv1 := [.ref 53, .int lo, .int hi, .int t]) (st1 := [.int 10, .int t, .int 7, .ref 53]) (h1 := (124, I, J2, R)) rfl ?_
  refine ev_call (v1 := none) (h1 := (124, I, J3, R)) rfl rfl c3 ?_
  refine ev_go 3 (pc1 := 27) (lv1 := [.ref 53, .int lo, .int hi, .int t]) (st1 := [.int lo, .int 7, .ref 53]) (h1 := (124, I, J3, R)) rfl ?_
  refine ev_call (v1 := none) (h1 := (124, I, J4, R)) rfl rfl c4 ?_
  exact ev_ret rfl rfl
/-- who has less gains t tenths of what the other has more -/
theorem qr_run {L : Nat} {xs : Nat → Int32} {d : Nat} {I : Nat → Nat → Int32} {J : Nat → Nat → Int64} {R : Nat → Nat → Nat} (hG : aGd R) {lo hi t : Int32} {un lN hN : Nat} (hu : (I 53 1).toInt = un) (h1 : 1 ≤ un) (h9 : un ≤ 9) (hl : lo.toInt = lN) (hh : hi.toInt = hN) (l7 : lN < 7) (h7 : hN < 7) (hne : lN ≠ hN) (t0 : 0 ≤ t.toInt) (t1 : t.toInt ≤ 10) (gj : cG J un) {m : Int} (hle : cV J un lN ≤ cV J un hN) (hm : cV J un hN ≤ tn (16 * (un - 1))) (hx : t.toInt * (cV J un hN - cV J un lN) = 10 * m) : ∃ J', xEv L xs (d + 2) 74 0 [.ref 53, .int lo, .int hi, .int t] [] (124, I, J, R) none (124, I, J', R) ∧ (∀ c, c ≠ 54 → ∀ q, J' c q = J c q) ∧ cG J' un ∧ cV J' un lN = cV J un lN + m ∧ ∀ q, q < 7 → q ≠ lN → cV J' un q = cV J un q := by
  have e7 : (7 : Int32).toInt = (7 : Nat) := by decide
  have bl := cV_b (gj.1 lN (by omega)) h9
  have bh := cV_b (gj.1 hN (by omega)) h9
  obtain ⟨J1, x1, x2, x3⟩ := qy_run (L := L) (xs := xs) (d := d) (I := I) (J := J) hG hu h9 hh e7 (by omega) (by omega)
  have d1 : cD J1 7 := fun i hi => by
    by_cases g : i < un
    · rw [x2 i g]
      exact gj.1 hN (by omega) i hi
    · rw [x3 _ _ (by omega)]
      exact gj.1 7 (by omega) i hi
  have k1 : cK J J1 un 7 := fun c q hc => x3 c q (by omega)
  have g1 := cG_f h9 gj k1 d1
  have v1 : cV J1 un 7 = cV J un hN := cV_y x2
  have v1l : cV J1 un lN = cV J un lN := cV_k h9 k1 (by omega)
  obtain ⟨J2, y1, k2, y3, y4⟩ := qu_run (L := L) (xs := xs) (d := d + 1) (I := I) (J := J1) hG hu h1 h9 hl e7 (by omega) (by omega) (by omega) (g1.1 lN (by omega)) d1 (by rw [v1, v1l]; exact hle)
  have g2 := cG_f h9 g1 k2 y3
  rw [v1, v1l] at y4
  have v2l : cV J2 un lN = cV J un lN := by rw [cV_k h9 k2 (by omega)]; exact v1l
  obtain ⟨J3, z1, k3, z3, z, za, zb, zc⟩ := q10_run (L := L) (xs := xs) (d := d + 1) (I := I) (J := J2) hG hu h1 h9 e7 (by omega) t0 (show t.toInt ≤ 100 by omega) (g2.1 7 (by omega)) (cV_1 h1 h9 (g2.1 7 (by omega)) (by rw [y4]; omega))
  have g3 := cG_f h9 g2 k3 z3
  rw [y4, hx] at zc
  have v3 : cV J3 un 7 = m := by omega
  have v3l : cV J3 un lN = cV J un lN := by rw [cV_k h9 k3 (by omega)]; exact v2l
  have tm := Int.mul_le_mul_of_nonneg_right t1 (show 0 ≤ cV J un hN - cV J un lN by omega)
  have tu := tn_lt (show 16 * (un - 1) < 16 * un by omega)
  obtain ⟨J4, w1, k4, w3, w4⟩ := qd_run (L := L) (xs := xs) (d := d + 1) (I := I) (J := J3) hG hu h1 h9 e7 hl (by omega) (by omega) (by omega) (g3.1 7 (by omega)) (g3.1 lN (by omega)) (by rw [v3, v3l]; omega)
  have g4 := cG_f h9 g3 k4 w3
  refine ⟨J4, qr_s hG x1 y1 z1 w1, fun c hc q => by rw [k4 c q (fun h => hc h.1), k3 c q (fun h => hc h.1), k2 c q (fun h => hc h.1), k1 c q (fun h => hc h.1)], g4, by rw [w4, v3, v3l], fun q hq hn => ?_⟩
  rw [cV_k h9 k4 hn, cV_k h9 k3 (by omega), cV_k h9 k2 (by omega), cV_k h9 k1 (by omega)]
set_option maxRecDepth 20000 in
theorem qf_s {L : Nat} {xs : Nat → Int32} {d : Nat} {I : Nat → Nat → Int32} {J : Nat → Nat → Int64} {R : Nat → Nat → Nat} {x : Int64} (hG : aGd R)  {v : Option Value} {h' : xH} (hk : xEv L xs d 71 6 [.ref 54, .long x, xmk, .int 0, .int 81] [] (124, I, J, R) v h') : xEv L xs d 71 0 [.ref 54, .long x, xmk, xmk, xmk] [] (124, I, J, R) v h' := by
  refine ev_go 5 (pc1 := 6) (lv1 := [.ref 54, .long x, xmk, .int 0, .int 81]) (st1 := []) (h1 := (124, I, J, R)) rfl ?_
  exact hk
set_option maxRecDepth 20000 in
theorem qf_l {L : Nat} {xs : Nat → Int32} {d : Nat} {I : Nat → Nat → Int32} {J : Nat → Nat → Int64} {R : Nat → Nat → Nat} {k : Int32} {x : Int64} (hG : aGd R) (b1 : k.toInt < 81) (n1 : 0 ≤ k.toInt) (m1 : k.toInt < 81) {v : Option Value} {h' : xH} (hk : xEv L xs d 71 6 [.ref 54, .long x, xmk, .int (k + 1), .int 81] [] (124, I, (uL J 54 k.toNatClampNeg x), R) v h') : xEv L xs d 71 6 [.ref 54, .long x, xmk, .int k, .int 81] [] (124, I, J, R) v h' := by
  refine ev_go 2 (pc1 := 9) (lv1 := [.ref 54, .long x, xmk, .int k, .int 81]) (st1 := [.int 81, .int k]) (h1 := (124, I, J, R)) rfl ?_
  refine ev_br (b1 := false) rfl rfl (xcd_nge (x := k) (y := 81) (by rw [show ((81 : Int32)).toInt = 81 from by decide]; first | exact b1 | omega)) ?_
  refine ev_go 3 (pc1 := 15) (lv1 := [.ref 54, .long x, xmk, .int k, .int 81]) (st1 := [.long x, .int k, .ref 54]) (h1 := (124, I, J, R)) rfl ?_
  refine ev_lst (n := 81) rfl rfl (fun _ => rfl) n1 m1 ?_
  refine ev_go 2 (pc1 := 6) (lv1 := [.ref 54, .long x, xmk, .int (k + 1), .int 81]) (st1 := []) (h1 := (124, I, (uL J 54 k.toNatClampNeg x), R)) rfl ?_
  exact hk
set_option maxRecDepth 20000 in
theorem qf_e {L : Nat} {xs : Nat → Int32} {d : Nat} {I : Nat → Nat → Int32} {J : Nat → Nat → Int64} {R : Nat → Nat → Nat} {k : Int32} {x : Int64} (hG : aGd R) (b1 : k.toInt ≥ 81) : xEv L xs d 71 6 [.ref 54, .long x, xmk, .int k, .int 81] [] (124, I, J, R) none (124, I, J, R) := by
  refine ev_go 2 (pc1 := 9) (lv1 := [.ref 54, .long x, xmk, .int k, .int 81]) (st1 := [.int 81, .int k]) (h1 := (124, I, J, R)) rfl ?_
  refine ev_br (b1 := true) rfl rfl (xcd_ge (x := k) (y := 81) (by rw [show ((81 : Int32)).toInt = 81 from by decide]; first | exact b1 | omega)) ?_
  exact ev_ret rfl rfl
set_option maxRecDepth 20000 in
theorem qs_s {L : Nat} {xs : Nat → Int32} {d : Nat} {I : Nat → Nat → Int32} {J : Nat → Nat → Int64} {R : Nat → Nat → Nat} {J1 : Nat → Nat → Int64} {q dg : Int32} (hG : aGd R) (c1 : xEv L xs d 71 0 [.ref 54, .long 0, xmk, xmk, xmk] [] (124, I, J, R) none (124, I, J1, R)) (b1 : q.toInt ≥ 0) (b2 : q.toInt < 9) (n1 : 0 ≤ (q * 9).toInt) (m1 : (q * 9).toInt < 81) : xEv L xs (d + 1) 70 0 [.ref 53, .int q, .int dg] [] (124, I, J, R) none (124, (uI I 53 1 (if (1 + ((((if 0 < dg then dg else 0) + 16) - 1) / 16)) < 9 then (1 + ((((if 0 < dg then dg else 0) + 16) - 1) / 16)) else 9)), (uL J1 54 (q * 9).toNatClampNeg 1), R) := by
  refine ev_go 1 (pc1 := 1) (lv1 := [.ref 53, .int q, .int dg]) (st1 := [.ref 53]) (h1 := (124, I, J, R)) rfl ?_
  refine ev_gf (c := 53) (t := 54) (X := R 53 0) rfl rfl (fun _ => rfl) rfl (hG 53 0 54 rfl rfl) ?_
  refine ev_go 1 (pc1 := 5) (lv1 := [.ref 53, .int q, .int dg]) (st1 := [.long 0, .ref 54]) (h1 := (124, I, J, R)) rfl ?_
  refine ev_call (v1 := none) (h1 := (124, I, J1, R)) rfl rfl c1 ?_
  refine ev_go 11 (pc1 := 24) (lv1 := [.ref 53, .int q, .int dg]) (st1 := [.int 16, .int (((if 0 < dg then dg else 0) + 16) - 1), .int 1, .int 9, .ref 53]) (h1 := (124, I, J1, R)) rfl ?_
  refine ev_go 5 (pc1 := 33) (lv1 := [.ref 53, .int q, .int dg]) (st1 := [.int q]) (h1 := (124, (uI I 53 1 (if (1 + ((((if 0 < dg then dg else 0) + 16) - 1) / 16)) < 9 then (1 + ((((if 0 < dg then dg else 0) + 16) - 1) / 16)) else 9)), J1, R)) rfl ?_
  refine ev_br (b1 := false) rfl rfl (xcd_nlt (x := q) (y := 0) (by rw [show ((0 : Int32)).toInt = 0 from by decide]; first | exact b1 | omega)) ?_
  refine ev_go 2 (pc1 := 39) (lv1 := [.ref 53, .int q, .int dg]) (st1 := [.int 9, .int q]) (h1 := (124, (uI I 53 1 (if (1 + ((((if 0 < dg then dg else 0) + 16) - 1) / 16)) < 9 then (1 + ((((if 0 < dg then dg else 0) + 16) - 1) / 16)) else 9)), J1, R)) rfl ?_
  refine ev_br (b1 := false) rfl rfl (xcd_nge (x := q) (y := 9) (by rw [show ((9 : Int32)).toInt = 9 from by decide]; first | exact b2 | omega)) ?_
  refine ev_go 1 (pc1 := 43) (lv1 := [.ref 53, .int q, .int dg]) (st1 := [.ref 53]) (h1 := (124, (uI I 53 1 (if (1 + ((((if 0 < dg then dg else 0) + 16) - 1) / 16)) < 9 then (1 + ((((if 0 < dg then dg else 0) + 16) - 1) / 16)) else 9)), J1, R)) rfl ?_
  refine ev_gf (c := 53) (t := 54) (X := R 53 0) rfl rfl (fun _ => rfl) rfl (hG 53 0 54 rfl rfl) ?_
  refine ev_go 4 (pc1 := 51) (lv1 := [.ref 53, .int q, .int dg]) (st1 := [.long 1, .int (q * 9), .ref 54]) (h1 := (124, (uI I 53 1 (if (1 + ((((if 0 < dg then dg else 0) + 16) - 1) / 16)) < 9 then (1 + ((((if 0 < dg then dg else 0) + 16) - 1) / 16)) else 9)), J1, R)) rfl ?_
  refine ev_lst (n := 81) rfl rfl (fun _ => rfl) n1 m1 ?_
  exact ev_ret rfl rfl
theorem qf_run {L : Nat} {xs : Nat → Int32} {d : Nat} {I : Nat → Nat → Int32} {R : Nat → Nat → Nat} (hG : aGd R) {x : Int64} : ∀ (f kN : Nat) (k : Int32) (J : Nat → Nat → Int64), kN + f = 81 → k.toInt = kN → (∀ q, q < kN → J 54 q = x) →
    ∃ J', xEv L xs d 71 6 [.ref 54, .long x, xmk, .int k, .int 81] [] (124, I, J, R) none (124, I, J', R) ∧ (∀ c q, c ≠ 54 → J' c q = J c q) ∧ ∀ q, q < 81 → J' 54 q = x := by
  intro f
  induction f with
  | zero =>
    intro kN k J hk ek hJ
    exact ⟨J, qf_e hG (by omega), fun _ _ _ => rfl, fun q hq => hJ q (by omega)⟩
  | succ f ih =>
    intro kN k J hk ek hJ
    have eck := clamp_s (i := k) (by omega)
    have ekk : k.toNatClampNeg = kN := by omega
    have hk' : (k + 1).toInt = (kN + 1 : Nat) := by rw [i_add1 (by omega)]; omega
    obtain ⟨J', y1, y2, y3⟩ := ih (kN + 1) (k + 1) (uL J 54 kN x) (by omega) hk' (fun q hq => by
      by_cases e : q = kN
      · rw [e, uL_s]
      · rw [uL_n _ _ (fun z => e z.2)]
        exact hJ q (by omega))
    refine ⟨J', qf_l hG (by omega) (by omega) (by omega) (by rw [ekk]; exact y1), fun c q hc => ?_, y3⟩
    rw [y2 c q hc, uL_n _ _ (fun z => hc z.1)]
theorem qs_used {dg : Int32} {un : Nat} (h0 : -1000 ≤ dg.toInt) (h1 : dg.toInt ≤ 128) (hun : (un : Int) = 1 + ((if 0 < dg.toInt then dg.toInt else 0) + 15) / 16) : (if (1 + ((((if 0 < dg then dg else 0) + 16) - 1) / 16)) < 9 then (1 + ((((if 0 < dg then dg else 0) + 16) - 1) / 16)) else (9 : Int32)).toInt = un := by
  have e0 : (0 : Int32).toInt = 0 := by decide
  have e1 : (1 : Int32).toInt = 1 := by decide
  have e9 : (9 : Int32).toInt = 9 := by decide
  have e16 : (16 : Int32).toInt = 16 := by decide
  obtain ⟨mx, hmx⟩ : ∃ mx, (if 0 < dg then dg else 0) = mx := ⟨_, rfl⟩
  have emx : mx.toInt = if 0 < dg.toInt then dg.toInt else 0 := by
    rw [← hmx]
    by_cases h : 0 < dg
    · have h' := Int32.lt_iff_toInt_lt.mp h
      rw [e0] at h'
      rw [if_pos h, if_pos h']
    · have h' := mt Int32.lt_iff_toInt_lt.mpr h
      rw [e0] at h'
      rw [if_neg h, if_neg h', e0]
  rw [hmx]
  rw [← emx] at hun
  have b0 : 0 ≤ mx.toInt := by rw [emx]; split <;> omega
  have b1 : mx.toInt ≤ 128 := by rw [emx]; split <;> omega
  have s1 : (mx + 16).toInt = mx.toInt + 16 := by rw [i_add (by omega) (by omega), e16]
  have s2 : (mx + 16 - 1).toInt = mx.toInt + 15 := by rw [i_sub (by omega) (by omega), e1, s1]; omega
  have s3 := i_div (x := mx + 16 - 1) (y := 16) (by omega) (by omega)
  rw [e16, s2] at s3
  have s4 : (1 + (mx + 16 - 1) / 16).toInt = un := by rw [i_add (by rw [e1]; omega) (by rw [e1]; omega), e1, s3]; omega
  by_cases h : (1 + (mx + 16 - 1) / 16) < 9
  · rw [if_pos h, s4]
  · have h' := mt Int32.lt_iff_toInt_lt.mpr h
    rw [if_neg h, e9]
    omega
theorem qs_run {L : Nat} {xs : Nat → Int32} {d : Nat} {I : Nat → Nat → Int32} {J : Nat → Nat → Int64} {R : Nat → Nat → Nat} (hG : aGd R) {q dg : Int32} {qN : Nat} (hq : q.toInt = qN) (q7 : qN < 7) (h0 : -1000 ≤ dg.toInt) (h1 : dg.toInt ≤ 128) : ∃ (I' : Nat → Nat → Int32) (J' : Nat → Nat → Int64) (un : Nat), xEv L xs (d + 1) 70 0 [.ref 53, .int q, .int dg] [] (124, I, J, R) none (124, I', J', R) ∧ (∀ c k, ¬ (c = 53 ∧ k = 1) → I' c k = I c k) ∧ (∀ c k, c ≠ 54 → J' c k = J c k) ∧ (I' 53 1).toInt = un ∧ 1 ≤ un ∧ un ≤ 9 ∧ dg.toInt ≤ (16 * (un - 1) : Nat) ∧ cG J' un ∧ cV J' un qN = tn (16 * (un - 1)) ∧ ∀ p, p < 9 → p ≠ qN → cV J' un p = 0 := by
  obtain ⟨J1, x1, x2, x3⟩ := qf_run (L := L) (xs := xs) (d := d) (I := I) hG (x := 0) 81 0 0 J (by omega) (by decide) (fun q hq => absurd hq (by omega))
  obtain ⟨b1, b2, b3⟩ := ix90 hq (by omega)
  obtain ⟨un, hun⟩ := Int.eq_ofNat_of_zero_le (show 0 ≤ 1 + ((if 0 < dg.toInt then dg.toInt else 0) + 15) / 16 by split <;> omega)
  have us := qs_used h0 h1 hun.symm
  have u1 : 1 ≤ un := by split at hun <;> omega
  have u9 : un ≤ 9 := by split at hun <;> omega
  have ud : dg.toInt ≤ (16 * (un - 1) : Nat) := by split at hun <;> omega
  have e0 : (0 : Int64).toInt = 0 := by decide
  have e1 : (1 : Int64).toInt = 1 := by decide
  have x := qs_s (L := L) (xs := xs) (d := d) (I := I) (J := J) (J1 := J1) (q := q) (dg := dg) hG (qf_s hG x1) (by omega) (by omega) b1 b2
  rw [b3] at x
  have at0 : ∀ p i, p < 9 → i < 9 → ((uL J1 54 (9 * qN) 1) 54 (9 * p + i)).toInt = if p = qN ∧ i = 0 then 1 else 0 := fun p i hp hi => by
    by_cases h : p = qN ∧ i = 0
    · rw [if_pos h, h.1, h.2, Nat.add_zero, uL_s, e1]
    · rw [if_neg h, uL_n _ _ (by omega), x3 _ (by omega), e0]
  refine ⟨_, _, un, x, fun c k hc => uI_n _ _ hc, fun c k hc => by rw [uL_n _ _ (fun z => hc z.1), x2 c k hc], by rw [uI_s]; exact us, u1, u9, ud, ⟨fun p hp i hi => ?_, fun p hp i h1 hi => ?_⟩, ?_, fun p hp hn => ?_⟩
  · rw [at0 p i hp hi]
    split <;> omega
  · rw [at0 p i hp hi, if_neg (by omega)]
  · rw [cV_t u1]
    have z := sT_z (e := 16) (f := cF (uL J1 54 (9 * qN) 1) un qN) 0 (un - 1) (fun i h1 h2 => by
      show ((uL J1 54 (9 * qN) 1) 54 (9 * qN + (un - 1 - i))).toInt = 0
      rw [at0 _ _ (by omega) (by omega), if_neg (by omega)])
    rw [Nat.zero_add] at z
    have z' := at0 qN 0 (by omega) (by omega)
    rw [Nat.add_zero, if_pos ⟨rfl, rfl⟩] at z'
    rw [z, z', Int.one_mul, sT_0]
    exact Int.zero_add _
  · have z := sT_z (e := 16) (f := cF (uL J1 54 (9 * qN) 1) un p) 0 un (fun i h1 h2 => by
      show ((uL J1 54 (9 * qN) 1) 54 (9 * p + (un - 1 - i))).toInt = 0
      rw [at0 _ _ (by omega) (by omega), if_neg (by omega)])
    rw [Nat.zero_add, sT_0] at z
    exact z
set_option maxRecDepth 20000 in
theorem qi_s {L : Nat} {xs : Nat → Int32} {d : Nat} {I : Nat → Nat → Int32} {J : Nat → Nat → Int64} {R : Nat → Nat → Nat} {p : Int32} (hG : aGd R) (b1 : p.toInt ≥ 0) (b2 : p.toInt < 9) (n1 : 0 ≤ (p * 9).toInt) (m1 : (p * 9).toInt < 81) (n2 : 0 ≤ ((p * 9) + 1).toInt) (m2 : ((p * 9) + 1).toInt < 81) : xEv L xs d 79 0 [.ref 53, .int p] [] (124, I, J, R) (some (.int (((J 54 (p * 9).toNatClampNeg) * 1000000) + ((J 54 ((p * 9) + 1).toNatClampNeg) / 10000000000)).toInt32)) (124, I, J, R) := by
  refine ev_go 1 (pc1 := 1) (lv1 := [.ref 53, .int p]) (st1 := [.int p]) (h1 := (124, I, J, R)) rfl ?_
  refine ev_br (b1 := false) rfl rfl (xcd_nlt (x := p) (y := 0) (by rw [show ((0 : Int32)).toInt = 0 from by decide]; first | exact b1 | omega)) ?_
  refine ev_go 2 (pc1 := 7) (lv1 := [.ref 53, .int p]) (st1 := [.int 9, .int p]) (h1 := (124, I, J, R)) rfl ?_
  refine ev_br (b1 := true) rfl rfl (xcd_lt (x := p) (y := 9) (by rw [show ((9 : Int32)).toInt = 9 from by decide]; first | exact b2 | omega)) ?_
  refine ev_go 1 (pc1 := 13) (lv1 := [.ref 53, .int p]) (st1 := [.ref 53]) (h1 := (124, I, J, R)) rfl ?_
  refine ev_gf (c := 53) (t := 54) (X := R 53 0) rfl rfl (fun _ => rfl) rfl (hG 53 0 54 rfl rfl) ?_
  refine ev_go 3 (pc1 := 20) (lv1 := [.ref 53, .int p]) (st1 := [.int (p * 9), .ref 54]) (h1 := (124, I, J, R)) rfl ?_
  refine ev_lld (n := 81) rfl rfl (fun _ => rfl) n1 m1 ?_
  refine ev_go 3 (pc1 := 26) (lv1 := [.ref 53, .int p]) (st1 := [.ref 53, .long ((J 54 (p * 9).toNatClampNeg) * 1000000)]) (h1 := (124, I, J, R)) rfl ?_
  refine ev_gf (c := 53) (t := 54) (X := R 53 0) rfl rfl (fun _ => rfl) rfl (hG 53 0 54 rfl rfl) ?_
  refine ev_go 5 (pc1 := 35) (lv1 := [.ref 53, .int p]) (st1 := [.int ((p * 9) + 1), .ref 54, .long ((J 54 (p * 9).toNatClampNeg) * 1000000)]) (h1 := (124, I, J, R)) rfl ?_
  refine ev_lld (n := 81) rfl rfl (fun _ => rfl) n2 m2 ?_
  refine ev_go 1 (pc1 := 39) (lv1 := [.ref 53, .int p]) (st1 := [.long 10000000000, .long (J 54 ((p * 9) + 1).toNatClampNeg), .long ((J 54 (p * 9).toNatClampNeg) * 1000000)]) (h1 := (124, I, J, R)) rfl ?_
  refine ev_go 3 (pc1 := 42) (lv1 := [.ref 53, .int p]) (st1 := [.int (((J 54 (p * 9).toNatClampNeg) * 1000000) + ((J 54 ((p * 9) + 1).toNatClampNeg) / 10000000000)).toInt32]) (h1 := (124, I, J, R)) rfl ?_
  exact ev_ret rfl rfl
theorem qi_run {L : Nat} {xs : Nat → Int32} {d : Nat} {I : Nat → Nat → Int32} {J : Nat → Nat → Int64} {R : Nat → Nat → Nat} (hG : aGd R) {p : Int32} {un pN : Nat} (h1 : 1 ≤ un) (h9 : un ≤ 9) (hp : p.toInt = pN) (p9 : pN < 9) (gj : cG J un) (hv : cV J un pN ≤ tn (16 * (un - 1))) : ∃ r : Int32, xEv L xs d 79 0 [.ref 53, .int p] [] (124, I, J, R) (some (.int r)) (124, I, J, R) ∧ r.toInt = cV J un pN * 1000000 / tn (16 * (un - 1)) := by
  obtain ⟨a1, a2, a3⟩ := ix90 hp p9
  obtain ⟨b1, b2, b3⟩ := ix9 (i := 1) (iN := 1) hp (by decide) p9 (by omega)
  have x := qi_s (L := L) (xs := xs) (d := d) (I := I) (J := J) (p := p) hG (by omega) (by omega) a1 a2 b1 b2
  rw [a3, b3] at x
  refine ⟨_, x, ?_⟩
  obtain ⟨y0, y1⟩ := gj.1 pN p9 0 (by omega)
  obtain ⟨w0, w1⟩ := gj.1 pN p9 1 (by omega)
  have t1 := cV_1 h1 h9 (gj.1 pN p9) hv
  rw [Nat.add_zero] at y0 y1
  obtain ⟨p0, hp0⟩ : ∃ p, J 54 (9 * pN) * 1000000 = p := ⟨_, rfl⟩
  obtain ⟨p1, hp1⟩ : ∃ p, J 54 (9 * pN + 1) / 10000000000 = p := ⟨_, rfl⟩
  have m1 : p0.toInt = (J 54 (9 * pN)).toInt * 1000000 := by rw [← hp0, l_mul (by rw [k64_6]; omega) (by rw [k64_6]; omega), k64_6]
  have m2 := l_div (x := J 54 (9 * pN + 1)) (y := 10000000000) w0 (by rw [k64_10]; decide)
  rw [k64_10, hp1] at m2
  rw [hp0, hp1]
  have m3 : (p0 + p1).toInt = (J 54 (9 * pN)).toInt * 1000000 + (J 54 (9 * pN + 1)).toInt / 10000000000 := by rw [l_add (by omega) (by omega), m1, m2]
  rw [l2i_t (by omega) (by omega), m3]
  have t := cV_t (J := J) (un := un) (q := pN) h1
  by_cases u1 : un = 1
  · subst u1
    have z := gj.2 pN p9 1 (by omega) (by omega)
    rw [t, z]
    have e1 : sT 16 (cF J 1 pN) (1 - 1) = 0 := sT_0 _ _
    have e2 : tn (16 * (1 - 1)) = 1 := tn_0
    rw [e1, e2, Int.ediv_one]
    omega
  · obtain ⟨u, rfl⟩ : ∃ u, un = u + 2 := ⟨un - 2, by omega⟩
    rw [show u + 2 - 1 = u + 1 from rfl] at t hv ⊢
    have s := sT_s 16 (cF J (u + 2) pN) u
    have e1 : cF J (u + 2) pN u = (J 54 (9 * pN + 1)).toInt := by
      show (J 54 (9 * pN + (u + 2 - 1 - u))).toInt = _
      rw [show u + 2 - 1 - u = 1 from by omega]
    rw [e1] at s
    have lo := sT_b (e := 16) (f := cF J (u + 2) pN) u (fun i hi => cF_d (gj.1 pN p9) h9 i (by omega))
    have hp := tn_pos (16 * u)
    have e16 : tn (16 * (u + 1)) = tn (16 * u) * 10000000000 * 1000000 := by rw [tn_s, tn_16, Int.mul_assoc, show (10000000000 * 1000000 : Int) = 10000000000000000 from by decide +kernel]
    have k1 : cV J (u + 2) pN * 1000000 / tn (16 * (u + 1)) = cV J (u + 2) pN / (tn (16 * u) * 10000000000) := by rw [e16, Int.mul_ediv_mul_of_pos_left _ _ (by decide)]
    have k2 : cV J (u + 2) pN = sT 16 (cF J (u + 2) pN) u + tn (16 * u) * ((J 54 (9 * pN + 1)).toInt + (J 54 (9 * pN)).toInt * 10000000000000000) := by
      rw [t, s, tn_s, tn_16, Int.mul_add, Int.mul_comm (tn (16 * u)) (J 54 (9 * pN + 1)).toInt, Int.add_assoc]
      congr 2
      ac_rfl
    rw [k1, ← Int.ediv_ediv_of_nonneg (Int.le_of_lt hp), k2, Int.add_mul_ediv_left _ _ (tn_ne _), Int.ediv_eq_zero_of_lt lo.1 lo.2, Int.zero_add]
    omega
