theorem inr {L : Nat} {xs : Nat → Int32} {d : Nat} {R : Nat → Nat → Nat} {J : Nat → Nat → Int64} (hG : aGd R) {nn : Nat} (h4 : nn ≤ 4) : ∀ (f n : Nat) (i : Int32) (w2 : Value) (I : Nat → Nat → Int32), n + f = nn → i.toInt = n → (I 88 2).toInt = nn → (∀ q, q < n → I 106 q = I 96 q ∧ I 107 q = I 96 q) → ∃ I' : Nat → Nat → Int32, (∀ {v : Option Value} {h' : xH}, xEv L xs d 172 63 [.ref 86, .int 0, .int 0] [] (124, I', J, R) v h' → xEv L xs d 172 19 [.ref 86, .int i, w2] [] (124, I, J, R) v h') ∧ (∀ c q, c ≠ 106 → c ≠ 107 → I' c q = I c q) ∧ (∀ q, q < nn → I' 106 q = I' 96 q ∧ I' 107 q = I' 96 q) := by
  intro f
  induction f with
  | zero =>
    intro n i w2 I hn hi q5 hd
    exact ⟨I, fun hk => jr_b hG (by omega) hk, fun _ _ _ _ => rfl, fun q hq => hd q (by omega)⟩
  | succ f ih =>
    intro n i w2 I hn hi q5 hd
    have ec := clamp_s (i := i) (by omega)
    have ek : i.toNatClampNeg = n := by omega
    have hi' : (i + 1).toInt = (n + 1 : Nat) := by rw [i_add1 (by omega)]; omega
    obtain ⟨I', x1, x2, x3⟩ := ih (n + 1) (i + 1) w2 (uI (uI I 106 i.toNatClampNeg (I 96 i.toNatClampNeg)) 107 i.toNatClampNeg (I 96 i.toNatClampNeg)) (by omega) hi' (by rw [uI_c _ _ _ (by decide), uI_c _ _ _ (by decide)]; exact q5) (by
      intro q hq
      rw [ek, uI_c (uI I 106 n (I 96 n)) _ _ (show (106 : Nat) ≠ 107 by decide), uI_c (uI I 106 n (I 96 n)) _ _ (show (96 : Nat) ≠ 107 by decide), uI_c I _ _ (show (96 : Nat) ≠ 106 by decide)]
      by_cases e : q = n
      · subst e
        rw [uI_s, uI_s]
        exact ⟨rfl, rfl⟩
      · rw [uI_n _ _ (fun z => e z.2), uI_n _ _ (fun z => e z.2), uI_n _ _ (fun z => e z.2)]
        exact hd q (by omega))
    refine ⟨I', fun hk => jr_a hG (by omega) (by omega) (by omega) (by omega) (by omega) (by omega) (by omega) (by omega) (by omega) (x1 hk), fun c q c1 c2 => ?_, x3⟩
    rw [x2 c q c1 c2, uI_c _ _ _ c2, uI_c _ _ _ c1]
set_option maxRecDepth 20000 in
theorem jm_x {L : Nat} {xs : Nat → Int32} {d : Nat} {I : Nat → Nat → Int32} {J : Nat → Nat → Int64} {R : Nat → Nat → Nat} {a b : Int32} (hG : aGd R) (c1 : xEv L xs d 168 0 [.ref 86, .int a] [] (124, I, J, R) (some (.int 0)) (124, I, J, R)) : xEv L xs (d + 1) 181 0 [.ref 86, .int a, .int b] [] (124, I, J, R) (some (.int (-2))) (124, I, J, R) := by
  refine ev_go 2 (pc1 := 2) (lv1 := [.ref 86, .int a, .int b]) (st1 := [.int a, .ref 86]) (h1 := (124, I, J, R)) rfl ?_
  refine ev_call (v1 := (some (.int 0))) (h1 := (124, I, J, R)) rfl rfl c1 ?_
  refine ev_go 2 (pc1 := 10) (lv1 := [.ref 86, .int a, .int b]) (st1 := [.int (-2)]) (h1 := (124, I, J, R)) rfl ?_
  exact ev_ret rfl rfl
set_option maxRecDepth 20000 in
theorem jm_n {L : Nat} {xs : Nat → Int32} {d : Nat} {I : Nat → Nat → Int32} {J : Nat → Nat → Int64} {R : Nat → Nat → Nat} {a b : Int32} (hG : aGd R) (c1 : xEv L xs d 168 0 [.ref 86, .int a] [] (124, I, J, R) (some (.int 1)) (124, I, J, R)) (b1 : (I 86 35).toInt = 0) : xEv L xs (d + 1) 181 0 [.ref 86, .int a, .int b] [] (124, I, J, R) (some (.int (-1))) (124, I, J, R) := by
  refine ev_go 2 (pc1 := 2) (lv1 := [.ref 86, .int a, .int b]) (st1 := [.int a, .ref 86]) (h1 := (124, I, J, R)) rfl ?_
  refine ev_call (v1 := (some (.int 1))) (h1 := (124, I, J, R)) rfl rfl c1 ?_
  refine ev_go 3 (pc1 := 15) (lv1 := [.ref 86, .int a, .int b]) (st1 := [.int (I 86 35)]) (h1 := (124, I, J, R)) rfl ?_
  refine ev_br (b1 := false) rfl rfl (xcd_nne (x := (I 86 35)) (y := 0) (by rw [show ((0 : Int32)).toInt = 0 from by decide]; first | exact b1 | omega)) ?_
  refine ev_go 1 (pc1 := 19) (lv1 := [.ref 86, .int a, .int b]) (st1 := [.int (-1)]) (h1 := (124, I, J, R)) rfl ?_
  exact ev_ret rfl rfl
set_option maxRecDepth 20000 in
theorem jm_0 {L : Nat} {xs : Nat → Int32} {d : Nat} {I : Nat → Nat → Int32} {J : Nat → Nat → Int64} {R : Nat → Nat → Nat} {a b : Int32} (hG : aGd R) (c1 : xEv L xs d 168 0 [.ref 86, .int a] [] (124, I, J, R) (some (.int 1)) (124, I, J, R)) (b1 : (I 86 35).toInt ≠ 0) (b2 : b.toInt = 0) (n1 : 0 ≤ a.toInt) (m1 : a.toInt < 4) : xEv L xs (d + 1) 181 0 [.ref 86, .int a, .int b] [] (124, I, J, R) (some (.int (I 106 a.toNatClampNeg))) (124, I, J, R) := by
  refine ev_go 2 (pc1 := 2) (lv1 := [.ref 86, .int a, .int b]) (st1 := [.int a, .ref 86]) (h1 := (124, I, J, R)) rfl ?_
  refine ev_call (v1 := (some (.int 1))) (h1 := (124, I, J, R)) rfl rfl c1 ?_
  refine ev_go 3 (pc1 := 15) (lv1 := [.ref 86, .int a, .int b]) (st1 := [.int (I 86 35)]) (h1 := (124, I, J, R)) rfl ?_
  refine ev_br (b1 := true) rfl rfl (xcd_ne (x := (I 86 35)) (y := 0) (by rw [show ((0 : Int32)).toInt = 0 from by decide]; first | exact b1 | omega)) ?_
  refine ev_go 1 (pc1 := 21) (lv1 := [.ref 86, .int a, .int b]) (st1 := [.int b]) (h1 := (124, I, J, R)) rfl ?_
  refine ev_br (b1 := false) rfl rfl (xcd_nne (x := b) (y := 0) (by rw [show ((0 : Int32)).toInt = 0 from by decide]; first | exact b2 | omega)) ?_
  refine ev_go 1 (pc1 := 25) (lv1 := [.ref 86, .int a, .int b]) (st1 := [.ref 86]) (h1 := (124, I, J, R)) rfl ?_
  refine ev_gf (c := 86) (t := 106) (X := R 86 36) rfl rfl (fun _ => rfl) rfl (hG 86 36 106 rfl rfl) ?_
  refine ev_go 1 (pc1 := 29) (lv1 := [.ref 86, .int a, .int b]) (st1 := [.int a, .ref 106]) (h1 := (124, I, J, R)) rfl ?_
  refine ev_ild (n := 4) rfl rfl (fun _ => rfl) n1 m1 ?_
  refine ev_go 1 (pc1 := 62) (lv1 := [.ref 86, .int a, .int b]) (st1 := [.int (I 106 a.toNatClampNeg)]) (h1 := (124, I, J, R)) rfl ?_
  exact ev_ret rfl rfl
set_option maxRecDepth 20000 in
theorem jm_1 {L : Nat} {xs : Nat → Int32} {d : Nat} {I : Nat → Nat → Int32} {J : Nat → Nat → Int64} {R : Nat → Nat → Nat} {a b : Int32} (hG : aGd R) (c1 : xEv L xs d 168 0 [.ref 86, .int a] [] (124, I, J, R) (some (.int 1)) (124, I, J, R)) (b1 : (I 86 35).toInt ≠ 0) (b2 : b.toInt ≠ 0) (b3 : b.toInt = 1) (n1 : 0 ≤ a.toInt) (m1 : a.toInt < 4) (n2 : 0 ≤ a.toInt) (m2 : a.toInt < 8) (b4 : (I 107 a.toNatClampNeg).toInt = (I 97 a.toNatClampNeg).toInt) : xEv L xs (d + 1) 181 0 [.ref 86, .int a, .int b] [] (124, I, J, R) (some (.int 1)) (124, I, J, R) := by
  refine ev_go 2 (pc1 := 2) (lv1 := [.ref 86, .int a, .int b]) (st1 := [.int a, .ref 86]) (h1 := (124, I, J, R)) rfl ?_
  refine ev_call (v1 := (some (.int 1))) (h1 := (124, I, J, R)) rfl rfl c1 ?_
  refine ev_go 3 (pc1 := 15) (lv1 := [.ref 86, .int a, .int b]) (st1 := [.int (I 86 35)]) (h1 := (124, I, J, R)) rfl ?_
  refine ev_br (b1 := true) rfl rfl (xcd_ne (x := (I 86 35)) (y := 0) (by rw [show ((0 : Int32)).toInt = 0 from by decide]; first | exact b1 | omega)) ?_
  refine ev_go 1 (pc1 := 21) (lv1 := [.ref 86, .int a, .int b]) (st1 := [.int b]) (h1 := (124, I, J, R)) rfl ?_
  refine ev_br (b1 := true) rfl rfl (xcd_ne (x := b) (y := 0) (by rw [show ((0 : Int32)).toInt = 0 from by decide]; first | exact b2 | omega)) ?_
  refine ev_go 2 (pc1 := 35) (lv1 := [.ref 86, .int a, .int b]) (st1 := [.int 1, .int b]) (h1 := (124, I, J, R)) rfl ?_
  refine ev_br (b1 := false) rfl rfl (xcd_nne (x := b) (y := 1) (by rw [show ((1 : Int32)).toInt = 1 from by decide]; first | exact b3 | omega)) ?_
  refine ev_go 1 (pc1 := 39) (lv1 := [.ref 86, .int a, .int b]) (st1 := [.ref 86]) (h1 := (124, I, J, R)) rfl ?_
  refine ev_gf (c := 86) (t := 107) (X := R 86 37) rfl rfl (fun _ => rfl) rfl (hG 86 37 107 rfl rfl) ?_
  refine ev_go 1 (pc1 := 43) (lv1 := [.ref 86, .int a, .int b]) (st1 := [.int a, .ref 107]) (h1 := (124, I, J, R)) rfl ?_
  refine ev_ild (n := 4) rfl rfl (fun _ => rfl) n1 m1 ?_
  refine ev_go 1 (pc1 := 45) (lv1 := [.ref 86, .int a, .int b]) (st1 := [.ref 86, .int (I 107 a.toNatClampNeg)]) (h1 := (124, I, J, R)) rfl ?_
  refine ev_gf (c := 86) (t := 97) (X := R 86 21) rfl rfl (fun _ => rfl) rfl (hG 86 21 97 rfl rfl) ?_
  refine ev_go 1 (pc1 := 49) (lv1 := [.ref 86, .int a, .int b]) (st1 := [.int a, .ref 97, .int (I 107 a.toNatClampNeg)]) (h1 := (124, I, J, R)) rfl ?_
  refine ev_ild (n := 8) rfl rfl (fun _ => rfl) n2 m2 ?_
  refine ev_br (b1 := false) rfl rfl (xcd_nne (x := (I 107 a.toNatClampNeg)) (y := (I 97 a.toNatClampNeg)) (by first | exact b4 | omega)) ?_
  refine ev_go 2 (pc1 := 62) (lv1 := [.ref 86, .int a, .int b]) (st1 := [.int 1]) (h1 := (124, I, J, R)) rfl ?_
  exact ev_ret rfl rfl
set_option maxRecDepth 20000 in
theorem jm_2 {L : Nat} {xs : Nat → Int32} {d : Nat} {I : Nat → Nat → Int32} {J : Nat → Nat → Int64} {R : Nat → Nat → Nat} {a b : Int32} (hG : aGd R) (c1 : xEv L xs d 168 0 [.ref 86, .int a] [] (124, I, J, R) (some (.int 1)) (124, I, J, R)) (b1 : (I 86 35).toInt ≠ 0) (b2 : b.toInt ≠ 0) (b3 : b.toInt = 1) (n1 : 0 ≤ a.toInt) (m1 : a.toInt < 4) (n2 : 0 ≤ a.toInt) (m2 : a.toInt < 8) (b4 : (I 107 a.toNatClampNeg).toInt ≠ (I 97 a.toNatClampNeg).toInt) : xEv L xs (d + 1) 181 0 [.ref 86, .int a, .int b] [] (124, I, J, R) (some (.int 0)) (124, I, J, R) := by
  refine ev_go 2 (pc1 := 2) (lv1 := [.ref 86, .int a, .int b]) (st1 := [.int a, .ref 86]) (h1 := (124, I, J, R)) rfl ?_
  refine ev_call (v1 := (some (.int 1))) (h1 := (124, I, J, R)) rfl rfl c1 ?_
  refine ev_go 3 (pc1 := 15) (lv1 := [.ref 86, .int a, .int b]) (st1 := [.int (I 86 35)]) (h1 := (124, I, J, R)) rfl ?_
  refine ev_br (b1 := true) rfl rfl (xcd_ne (x := (I 86 35)) (y := 0) (by rw [show ((0 : Int32)).toInt = 0 from by decide]; first | exact b1 | omega)) ?_
  refine ev_go 1 (pc1 := 21) (lv1 := [.ref 86, .int a, .int b]) (st1 := [.int b]) (h1 := (124, I, J, R)) rfl ?_
  refine ev_br (b1 := true) rfl rfl (xcd_ne (x := b) (y := 0) (by rw [show ((0 : Int32)).toInt = 0 from by decide]; first | exact b2 | omega)) ?_
  refine ev_go 2 (pc1 := 35) (lv1 := [.ref 86, .int a, .int b]) (st1 := [.int 1, .int b]) (h1 := (124, I, J, R)) rfl ?_
  refine ev_br (b1 := false) rfl rfl (xcd_nne (x := b) (y := 1) (by rw [show ((1 : Int32)).toInt = 1 from by decide]; first | exact b3 | omega)) ?_
  refine ev_go 1 (pc1 := 39) (lv1 := [.ref 86, .int a, .int b]) (st1 := [.ref 86]) (h1 := (124, I, J, R)) rfl ?_
  refine ev_gf (c := 86) (t := 107) (X := R 86 37) rfl rfl (fun _ => rfl) rfl (hG 86 37 107 rfl rfl) ?_
  refine ev_go 1 (pc1 := 43) (lv1 := [.ref 86, .int a, .int b]) (st1 := [.int a, .ref 107]) (h1 := (124, I, J, R)) rfl ?_
  refine ev_ild (n := 4) rfl rfl (fun _ => rfl) n1 m1 ?_
  refine ev_go 1 (pc1 := 45) (lv1 := [.ref 86, .int a, .int b]) (st1 := [.ref 86, .int (I 107 a.toNatClampNeg)]) (h1 := (124, I, J, R)) rfl ?_
  refine ev_gf (c := 86) (t := 97) (X := R 86 21) rfl rfl (fun _ => rfl) rfl (hG 86 21 97 rfl rfl) ?_
  refine ev_go 1 (pc1 := 49) (lv1 := [.ref 86, .int a, .int b]) (st1 := [.int a, .ref 97, .int (I 107 a.toNatClampNeg)]) (h1 := (124, I, J, R)) rfl ?_
  refine ev_ild (n := 8) rfl rfl (fun _ => rfl) n2 m2 ?_
  refine ev_br (b1 := true) rfl rfl (xcd_ne (x := (I 107 a.toNatClampNeg)) (y := (I 97 a.toNatClampNeg)) (by first | exact b4 | omega)) ?_
  refine ev_go 2 (pc1 := 62) (lv1 := [.ref 86, .int a, .int b]) (st1 := [.int 0]) (h1 := (124, I, J, R)) rfl ?_
  exact ev_ret rfl rfl
set_option maxRecDepth 20000 in
theorem jm_d {L : Nat} {xs : Nat → Int32} {d : Nat} {I : Nat → Nat → Int32} {J : Nat → Nat → Int64} {R : Nat → Nat → Nat} {a b : Int32} (hG : aGd R) (c1 : xEv L xs d 168 0 [.ref 86, .int a] [] (124, I, J, R) (some (.int 1)) (124, I, J, R)) (b1 : (I 86 35).toInt ≠ 0) (b2 : b.toInt ≠ 0) (b3 : b.toInt ≠ 1) : xEv L xs (d + 1) 181 0 [.ref 86, .int a, .int b] [] (124, I, J, R) (some (.int (-1))) (124, I, J, R) := by
  refine ev_go 2 (pc1 := 2) (lv1 := [.ref 86, .int a, .int b]) (st1 := [.int a, .ref 86]) (h1 := (124, I, J, R)) rfl ?_
  refine ev_call (v1 := (some (.int 1))) (h1 := (124, I, J, R)) rfl rfl c1 ?_
  refine ev_go 3 (pc1 := 15) (lv1 := [.ref 86, .int a, .int b]) (st1 := [.int (I 86 35)]) (h1 := (124, I, J, R)) rfl ?_
  refine ev_br (b1 := true) rfl rfl (xcd_ne (x := (I 86 35)) (y := 0) (by rw [show ((0 : Int32)).toInt = 0 from by decide]; first | exact b1 | omega)) ?_
  refine ev_go 1 (pc1 := 21) (lv1 := [.ref 86, .int a, .int b]) (st1 := [.int b]) (h1 := (124, I, J, R)) rfl ?_
  refine ev_br (b1 := true) rfl rfl (xcd_ne (x := b) (y := 0) (by rw [show ((0 : Int32)).toInt = 0 from by decide]; first | exact b2 | omega)) ?_
  refine ev_go 2 (pc1 := 35) (lv1 := [.ref 86, .int a, .int b]) (st1 := [.int 1, .int b]) (h1 := (124, I, J, R)) rfl ?_
  refine ev_br (b1 := true) rfl rfl (xcd_ne (x := b) (y := 1) (by rw [show ((1 : Int32)).toInt = 1 from by decide]; first | exact b3 | omega)) ?_
  refine ev_go 1 (pc1 := 62) (lv1 := [.ref 86, .int a, .int b]) (st1 := [.int (-1)]) (h1 := (124, I, J, R)) rfl ?_
  exact ev_ret rfl rfl
/-- what is judged, in both: nothing, or the same for each piece -/
def jdS (nn : Nat) (I : Nat → Nat → Int32) : Prop := (I 44 5 = 0 ∧ I 86 35 = 0) ∨ (I 44 5 = 1 ∧ I 86 35 = 1 ∧ ∀ q, q < nn → I 47 q = I 106 q ∧ I 48 q = I 107 q)
set_option maxRecDepth 20000 in
theorem jd_x_3 {L : Nat} {xs : Nat → Int32} {d : Nat} {I : Nat → Nat → Int32} {J : Nat → Nat → Int64} {R : Nat → Nat → Nat} {a b : Int32} (hG : aGd R) (r_R_0_8 : R 0 8 = 4) (c1 : xEv L xs d 59 0 [.ref 3, .int a] [] (124, I, J, R) (some (.int 0)) (124, I, J, R)) : xEv L xs (d + 1) 62 0 [.ref 0, .int a, .int b] [] (124, I, J, R) (some (.int (-2))) (124, I, J, R) := by
  refine ev_go 1 (pc1 := 1) (lv1 := [.ref 0, .int a, .int b]) (st1 := [.ref 0]) (h1 := (124, I, J, R)) rfl ?_
  refine ev_gf (c := 0) (t := 3) (X := R 0 8) rfl rfl (fun _ => rfl) rfl r_R_0_8 ?_
  refine ev_go 1 (pc1 := 5) (lv1 := [.ref 0, .int a, .int b]) (st1 := [.int a, .ref 3]) (h1 := (124, I, J, R)) rfl ?_
  refine ev_call (v1 := (some (.int 0))) (h1 := (124, I, J, R)) rfl rfl c1 ?_
  refine ev_go 2 (pc1 := 13) (lv1 := [.ref 0, .int a, .int b]) (st1 := [.int (-2)]) (h1 := (124, I, J, R)) rfl ?_
  exact ev_ret rfl rfl
set_option maxRecDepth 20000 in
theorem jd_n_3 {L : Nat} {xs : Nat → Int32} {d : Nat} {I : Nat → Nat → Int32} {J : Nat → Nat → Int64} {R : Nat → Nat → Nat} {a b : Int32} (hG : aGd R) (r_R_0_8 : R 0 8 = 4) (c1 : xEv L xs d 59 0 [.ref 3, .int a] [] (124, I, J, R) (some (.int 1)) (124, I, J, R)) (b1 : (I 44 5).toInt = 0) : xEv L xs (d + 1) 62 0 [.ref 0, .int a, .int b] [] (124, I, J, R) (some (.int (-1))) (124, I, J, R) := by
  refine ev_go 1 (pc1 := 1) (lv1 := [.ref 0, .int a, .int b]) (st1 := [.ref 0]) (h1 := (124, I, J, R)) rfl ?_
  refine ev_gf (c := 0) (t := 3) (X := R 0 8) rfl rfl (fun _ => rfl) rfl r_R_0_8 ?_
  refine ev_go 1 (pc1 := 5) (lv1 := [.ref 0, .int a, .int b]) (st1 := [.int a, .ref 3]) (h1 := (124, I, J, R)) rfl ?_
  refine ev_call (v1 := (some (.int 1))) (h1 := (124, I, J, R)) rfl rfl c1 ?_
  refine ev_go 2 (pc1 := 15) (lv1 := [.ref 0, .int a, .int b]) (st1 := [.ref 0]) (h1 := (124, I, J, R)) rfl ?_
  refine ev_gf (c := 0) (t := 44) (X := R 0 2) rfl rfl (fun _ => rfl) rfl (hG 0 2 44 rfl rfl) ?_
  refine ev_go 1 (pc1 := 21) (lv1 := [.ref 0, .int a, .int b]) (st1 := [.int (I 44 5)]) (h1 := (124, I, J, R)) rfl ?_
  refine ev_br (b1 := false) rfl rfl (xcd_nne (x := (I 44 5)) (y := 0) (by rw [show ((0 : Int32)).toInt = 0 from by decide]; first | exact b1 | omega)) ?_
  refine ev_go 1 (pc1 := 25) (lv1 := [.ref 0, .int a, .int b]) (st1 := [.int (-1)]) (h1 := (124, I, J, R)) rfl ?_
  exact ev_ret rfl rfl
set_option maxRecDepth 20000 in
theorem jd_0_3 {L : Nat} {xs : Nat → Int32} {d : Nat} {I : Nat → Nat → Int32} {J : Nat → Nat → Int64} {R : Nat → Nat → Nat} {a b r1 : Int32} (hG : aGd R) (r_R_0_8 : R 0 8 = 4) (c1 : xEv L xs d 59 0 [.ref 3, .int a] [] (124, I, J, R) (some (.int 1)) (124, I, J, R)) (b1 : (I 44 5).toInt ≠ 0) (b2 : b.toInt = 0) (c2 : xEv L xs d 39 0 [.ref 47, .int a] [] (124, I, J, R) (some (.int r1)) (124, I, J, R)) : xEv L xs (d + 1) 62 0 [.ref 0, .int a, .int b] [] (124, I, J, R) (some (.int r1)) (124, I, J, R) := by
  refine ev_go 1 (pc1 := 1) (lv1 := [.ref 0, .int a, .int b]) (st1 := [.ref 0]) (h1 := (124, I, J, R)) rfl ?_
  refine ev_gf (c := 0) (t := 3) (X := R 0 8) rfl rfl (fun _ => rfl) rfl r_R_0_8 ?_
  refine ev_go 1 (pc1 := 5) (lv1 := [.ref 0, .int a, .int b]) (st1 := [.int a, .ref 3]) (h1 := (124, I, J, R)) rfl ?_
  refine ev_call (v1 := (some (.int 1))) (h1 := (124, I, J, R)) rfl rfl c1 ?_
  refine ev_go 2 (pc1 := 15) (lv1 := [.ref 0, .int a, .int b]) (st1 := [.ref 0]) (h1 := (124, I, J, R)) rfl ?_
  refine ev_gf (c := 0) (t := 44) (X := R 0 2) rfl rfl (fun _ => rfl) rfl (hG 0 2 44 rfl rfl) ?_
  refine ev_go 1 (pc1 := 21) (lv1 := [.ref 0, .int a, .int b]) (st1 := [.int (I 44 5)]) (h1 := (124, I, J, R)) rfl ?_
  refine ev_br (b1 := true) rfl rfl (xcd_ne (x := (I 44 5)) (y := 0) (by rw [show ((0 : Int32)).toInt = 0 from by decide]; first | exact b1 | omega)) ?_
  refine ev_go 1 (pc1 := 27) (lv1 := [.ref 0, .int a, .int b]) (st1 := [.int b]) (h1 := (124, I, J, R)) rfl ?_
  refine ev_lk1 (x := b) (z := 0) (t := 52) rfl rfl b2 rfl rfl ?_
  refine ev_go 1 (pc1 := 53) (lv1 := [.ref 0, .int a, .int b]) (st1 := [.ref 0]) (h1 := (124, I, J, R)) rfl ?_
  refine ev_gf (c := 0) (t := 44) (X := R 0 2) rfl rfl (fun _ => rfl) rfl (hG 0 2 44 rfl rfl) ?_
  refine ev_gf (c := 44) (t := 47) (X := R 44 2) rfl rfl (fun _ => rfl) rfl (hG 44 2 47 rfl rfl) ?_
  refine ev_go 1 (pc1 := 60) (lv1 := [.ref 0, .int a, .int b]) (st1 := [.int a, .ref 47]) (h1 := (124, I, J, R)) rfl ?_
  refine ev_call (v1 := (some (.int r1))) (h1 := (124, I, J, R)) rfl rfl c2 ?_
  exact ev_ret rfl rfl
set_option maxRecDepth 20000 in
theorem jd_1_3 {L : Nat} {xs : Nat → Int32} {d : Nat} {I : Nat → Nat → Int32} {J : Nat → Nat → Int64} {R : Nat → Nat → Nat} {a b r1 r2 : Int32} (hG : aGd R) (r_R_0_8 : R 0 8 = 4) (c1 : xEv L xs d 59 0 [.ref 3, .int a] [] (124, I, J, R) (some (.int 1)) (124, I, J, R)) (b1 : (I 44 5).toInt ≠ 0) (b2 : b.toInt = 1) (c2 : xEv L xs d 39 0 [.ref 48, .int a] [] (124, I, J, R) (some (.int r1)) (124, I, J, R)) (c3 : xEv L xs d 39 0 [.ref 12, .int a] [] (124, I, J, R) (some (.int r2)) (124, I, J, R)) (b3 : r1.toInt = r2.toInt) : xEv L xs (d + 1) 62 0 [.ref 0, .int a, .int b] [] (124, I, J, R) (some (.int 1)) (124, I, J, R) := by
  refine ev_go 1 (pc1 := 1) (lv1 := [.ref 0, .int a, .int b]) (st1 := [.ref 0]) (h1 := (124, I, J, R)) rfl ?_
  refine ev_gf (c := 0) (t := 3) (X := R 0 8) rfl rfl (fun _ => rfl) rfl r_R_0_8 ?_
  refine ev_go 1 (pc1 := 5) (lv1 := [.ref 0, .int a, .int b]) (st1 := [.int a, .ref 3]) (h1 := (124, I, J, R)) rfl ?_
  refine ev_call (v1 := (some (.int 1))) (h1 := (124, I, J, R)) rfl rfl c1 ?_
  refine ev_go 2 (pc1 := 15) (lv1 := [.ref 0, .int a, .int b]) (st1 := [.ref 0]) (h1 := (124, I, J, R)) rfl ?_
  refine ev_gf (c := 0) (t := 44) (X := R 0 2) rfl rfl (fun _ => rfl) rfl (hG 0 2 44 rfl rfl) ?_
  refine ev_go 1 (pc1 := 21) (lv1 := [.ref 0, .int a, .int b]) (st1 := [.int (I 44 5)]) (h1 := (124, I, J, R)) rfl ?_
  refine ev_br (b1 := true) rfl rfl (xcd_ne (x := (I 44 5)) (y := 0) (by rw [show ((0 : Int32)).toInt = 0 from by decide]; first | exact b1 | omega)) ?_
  refine ev_go 1 (pc1 := 27) (lv1 := [.ref 0, .int a, .int b]) (st1 := [.int b]) (h1 := (124, I, J, R)) rfl ?_
  refine ev_lk1 (x := b) (z := 1) (t := 64) rfl rfl b2 rfl rfl ?_
  refine ev_go 1 (pc1 := 65) (lv1 := [.ref 0, .int a, .int b]) (st1 := [.ref 0]) (h1 := (124, I, J, R)) rfl ?_
  refine ev_gf (c := 0) (t := 44) (X := R 0 2) rfl rfl (fun _ => rfl) rfl (hG 0 2 44 rfl rfl) ?_
  refine ev_gf (c := 44) (t := 48) (X := R 44 3) rfl rfl (fun _ => rfl) rfl (hG 44 3 48 rfl rfl) ?_
  refine ev_go 1 (pc1 := 72) (lv1 := [.ref 0, .int a, .int b]) (st1 := [.int a, .ref 48]) (h1 := (124, I, J, R)) rfl ?_
  refine ev_call (v1 := (some (.int r1))) (h1 := (124, I, J, R)) rfl rfl c2 ?_
  refine ev_go 1 (pc1 := 76) (lv1 := [.ref 0, .int a, .int b]) (st1 := [.ref 0, .int r1]) (h1 := (124, I, J, R)) rfl ?_
  refine ev_gf (c := 0) (t := 3) (X := R 0 8) rfl rfl (fun _ => rfl) rfl r_R_0_8 ?_
  refine ev_gf (c := 3) (t := 12) (X := R 3 8) rfl rfl (fun _ => rfl) rfl (hG 3 8 12 rfl rfl) ?_
  refine ev_go 1 (pc1 := 83) (lv1 := [.ref 0, .int a, .int b]) (st1 := [.int a, .ref 12, .int r1]) (h1 := (124, I, J, R)) rfl ?_
  refine ev_call (v1 := (some (.int r2))) (h1 := (124, I, J, R)) rfl rfl c3 ?_
  refine ev_br (b1 := false) rfl rfl (xcd_nne (x := r1) (y := r2) (by first | exact b3 | omega)) ?_
  refine ev_go 2 (pc1 := 94) (lv1 := [.ref 0, .int a, .int b]) (st1 := [.int 1]) (h1 := (124, I, J, R)) rfl ?_
  exact ev_ret rfl rfl
set_option maxRecDepth 20000 in
theorem jd_2_3 {L : Nat} {xs : Nat → Int32} {d : Nat} {I : Nat → Nat → Int32} {J : Nat → Nat → Int64} {R : Nat → Nat → Nat} {a b r1 r2 : Int32} (hG : aGd R) (r_R_0_8 : R 0 8 = 4) (c1 : xEv L xs d 59 0 [.ref 3, .int a] [] (124, I, J, R) (some (.int 1)) (124, I, J, R)) (b1 : (I 44 5).toInt ≠ 0) (b2 : b.toInt = 1) (c2 : xEv L xs d 39 0 [.ref 48, .int a] [] (124, I, J, R) (some (.int r1)) (124, I, J, R)) (c3 : xEv L xs d 39 0 [.ref 12, .int a] [] (124, I, J, R) (some (.int r2)) (124, I, J, R)) (b3 : r1.toInt ≠ r2.toInt) : xEv L xs (d + 1) 62 0 [.ref 0, .int a, .int b] [] (124, I, J, R) (some (.int 0)) (124, I, J, R) := by
  refine ev_go 1 (pc1 := 1) (lv1 := [.ref 0, .int a, .int b]) (st1 := [.ref 0]) (h1 := (124, I, J, R)) rfl ?_
  refine ev_gf (c := 0) (t := 3) (X := R 0 8) rfl rfl (fun _ => rfl) rfl r_R_0_8 ?_
  refine ev_go 1 (pc1 := 5) (lv1 := [.ref 0, .int a, .int b]) (st1 := [.int a, .ref 3]) (h1 := (124, I, J, R)) rfl ?_
  refine ev_call (v1 := (some (.int 1))) (h1 := (124, I, J, R)) rfl rfl c1 ?_
  refine ev_go 2 (pc1 := 15) (lv1 := [.ref 0, .int a, .int b]) (st1 := [.ref 0]) (h1 := (124, I, J, R)) rfl ?_
  refine ev_gf (c := 0) (t := 44) (X := R 0 2) rfl rfl (fun _ => rfl) rfl (hG 0 2 44 rfl rfl) ?_
  refine ev_go 1 (pc1 := 21) (lv1 := [.ref 0, .int a, .int b]) (st1 := [.int (I 44 5)]) (h1 := (124, I, J, R)) rfl ?_
  refine ev_br (b1 := true) rfl rfl (xcd_ne (x := (I 44 5)) (y := 0) (by rw [show ((0 : Int32)).toInt = 0 from by decide]; first | exact b1 | omega)) ?_
  refine ev_go 1 (pc1 := 27) (lv1 := [.ref 0, .int a, .int b]) (st1 := [.int b]) (h1 := (124, I, J, R)) rfl ?_
  refine ev_lk1 (x := b) (z := 1) (t := 64) rfl rfl b2 rfl rfl ?_
  refine ev_go 1 (pc1 := 65) (lv1 := [.ref 0, .int a, .int b]) (st1 := [.ref 0]) (h1 := (124, I, J, R)) rfl ?_
  refine ev_gf (c := 0) (t := 44) (X := R 0 2) rfl rfl (fun _ => rfl) rfl (hG 0 2 44 rfl rfl) ?_
  refine ev_gf (c := 44) (t := 48) (X := R 44 3) rfl rfl (fun _ => rfl) rfl (hG 44 3 48 rfl rfl) ?_
  refine ev_go 1 (pc1 := 72) (lv1 := [.ref 0, .int a, .int b]) (st1 := [.int a, .ref 48]) (h1 := (124, I, J, R)) rfl ?_
  refine ev_call (v1 := (some (.int r1))) (h1 := (124, I, J, R)) rfl rfl c2 ?_
  refine ev_go 1 (pc1 := 76) (lv1 := [.ref 0, .int a, .int b]) (st1 := [.ref 0, .int r1]) (h1 := (124, I, J, R)) rfl ?_
  refine ev_gf (c := 0) (t := 3) (X := R 0 8) rfl rfl (fun _ => rfl) rfl r_R_0_8 ?_
  refine ev_gf (c := 3) (t := 12) (X := R 3 8) rfl rfl (fun _ => rfl) rfl (hG 3 8 12 rfl rfl) ?_
  refine ev_go 1 (pc1 := 83) (lv1 := [.ref 0, .int a, .int b]) (st1 := [.int a, .ref 12, .int r1]) (h1 := (124, I, J, R)) rfl ?_
  refine ev_call (v1 := (some (.int r2))) (h1 := (124, I, J, R)) rfl rfl c3 ?_
  refine ev_br (b1 := true) rfl rfl (xcd_ne (x := r1) (y := r2) (by first | exact b3 | omega)) ?_
  refine ev_go 1 (pc1 := 94) (lv1 := [.ref 0, .int a, .int b]) (st1 := [.int 0]) (h1 := (124, I, J, R)) rfl ?_
  exact ev_ret rfl rfl
set_option maxRecDepth 20000 in
theorem jd_d_3 {L : Nat} {xs : Nat → Int32} {d : Nat} {I : Nat → Nat → Int32} {J : Nat → Nat → Int64} {R : Nat → Nat → Nat} {a b : Int32} (hG : aGd R) (r_R_0_8 : R 0 8 = 4) (c1 : xEv L xs d 59 0 [.ref 3, .int a] [] (124, I, J, R) (some (.int 1)) (124, I, J, R)) (b1 : (I 44 5).toInt ≠ 0) (b2 : b.toInt ≠ 0 ∧ b.toInt ≠ 1) : xEv L xs (d + 1) 62 0 [.ref 0, .int a, .int b] [] (124, I, J, R) (some (.int (-1))) (124, I, J, R) := by
  refine ev_go 1 (pc1 := 1) (lv1 := [.ref 0, .int a, .int b]) (st1 := [.ref 0]) (h1 := (124, I, J, R)) rfl ?_
  refine ev_gf (c := 0) (t := 3) (X := R 0 8) rfl rfl (fun _ => rfl) rfl r_R_0_8 ?_
  refine ev_go 1 (pc1 := 5) (lv1 := [.ref 0, .int a, .int b]) (st1 := [.int a, .ref 3]) (h1 := (124, I, J, R)) rfl ?_
  refine ev_call (v1 := (some (.int 1))) (h1 := (124, I, J, R)) rfl rfl c1 ?_
  refine ev_go 2 (pc1 := 15) (lv1 := [.ref 0, .int a, .int b]) (st1 := [.ref 0]) (h1 := (124, I, J, R)) rfl ?_
  refine ev_gf (c := 0) (t := 44) (X := R 0 2) rfl rfl (fun _ => rfl) rfl (hG 0 2 44 rfl rfl) ?_
  refine ev_go 1 (pc1 := 21) (lv1 := [.ref 0, .int a, .int b]) (st1 := [.int (I 44 5)]) (h1 := (124, I, J, R)) rfl ?_
  refine ev_br (b1 := true) rfl rfl (xcd_ne (x := (I 44 5)) (y := 0) (by rw [show ((0 : Int32)).toInt = 0 from by decide]; first | exact b1 | omega)) ?_
  refine ev_go 1 (pc1 := 27) (lv1 := [.ref 0, .int a, .int b]) (st1 := [.int b]) (h1 := (124, I, J, R)) rfl ?_
  refine ev_lkp (x := b) (t := 95) rfl rfl (fun p hp => by have hp' : p ∈ [((0 : Int), (25 : Int)), (1, 37)] := hp; simp only [List.mem_cons, List.not_mem_nil, or_false] at hp'; rcases hp' with rfl | rfl; exact b2.1; exact b2.2) rfl ?_
  refine ev_go 1 (pc1 := 96) (lv1 := [.ref 0, .int a, .int b]) (st1 := [.int (-1)]) (h1 := (124, I, J, R)) rfl ?_
  exact ev_ret rfl rfl
theorem jud_3 {L : Nat} {xs : Nat → Int32} {d d' : Nat} {R Rr : Nat → Nat → Nat} {n : Nat} {Ic Ir : Nat → Nat → Int32} {Jc Jr : Nat → Nat → Int64} (hG : aGd R) (hGr : aGd Rr) (h8 : R 0 8 = 4) (h4 : 4 ≤ d' + 1) (hn9 : n ≤ 900) (hn : (Ic 1 1).toInt = n) (hm : (Ir 86 1).toInt = n) (hb : bM Ir n = bX Ic n) {np nm nn : Nat} {l : List (Nat × Nat)} (hV : VR_3 np nm nn l Ic Ir) :
    ∃ (r : Int32) (Ic' Ir' : Nat → Nat → Int32) (Jc' Jr' : Nat → Nat → Int64), xEv L xs (d + 4) 53 0 [.ref 0, xmk] [] (124, Ic, Jc, R) (some (.int r)) (124, Ic', Jc', R) ∧ xEv L xs (d' + 6) 172 0 [.ref 86, xmk, xmk] [] (124, Ir, Jr, Rr) (some (.int r)) (124, Ir', Jr', Rr) ∧
    ((Ic' 44 5 = Ic 44 5 ∧ Ir' 86 35 = Ir 86 35 ∧ (∀ q, Ic' 47 q = Ic 47 q ∧ Ic' 48 q = Ic 48 q ∧ Ir' 106 q = Ir 106 q ∧ Ir' 107 q = Ir 107 q)) ∨ (Ic' 44 5 = 1 ∧ Ir' 86 35 = 1 ∧ ∀ q, q < nn → Ic' 47 q = Ir' 106 q ∧ Ic' 48 q = Ir' 107 q)) := by
  obtain ⟨r, Ic1, Ir1, Jc1, Jr1, x1, x2, x3, x4, x5, x6⟩ := rws (L := L) (xs := xs) (d := d) (d' := d') (R := R) (Rr := Rr) (Jc := Jc) (Jr := Jr) hG hGr h4 hn9 (mo := 3) (by decide) hn hm rfl hb
  rcases x6 with rfl | ⟨rfl, m, m1, m2, m3, m4⟩
  · refine ⟨-1000, _, _, _, _, ju_x_3 hG x1, jr_x hGr x2, Or.inl ⟨?_, ?_, fun q => ⟨?_, ?_, ?_, ?_⟩⟩⟩
    · rw [uI_n _ _ (by omega)]; exact x3 44 5 (by omega) (by omega) (by omega) (by omega)
    · exact x4 86 35 (by omega) (by omega) (by omega) (by omega)
    · rw [uI_n _ _ (by omega)]; exact x3 47 q (by omega) (by omega) (by omega) (by omega)
    · rw [uI_n _ _ (by omega)]; exact x3 48 q (by omega) (by omega) (by omega) (by omega)
    · exact x4 106 q (by omega) (by omega) (by omega) (by omega)
    · exact x4 107 q (by omega) (by omega) (by omega) (by omega)
  have p3 := hV.1.2.2
  have hV1 : VR_3 np nm nn l (uI (uI Ic1 1 1 0) 44 5 1) (uI Ir1 86 35 1) := VR_t_3 hV (fun c q c1 c2 => by rw [uI_n _ _ (by omega), uI_n _ _ (by omega)]; exact x3 c q (by omega) (by omega) (by omega) (by omega)) (fun c q hc => by rw [uI_n _ _ (by omega)]; exact x4 c q (by omega) (by omega) (by omega) (by omega))
  obtain ⟨Ic2, y1, y2, y3⟩ := inc_3 (L := L) (xs := xs) (d := d + 2) (R := R) (J := Jc1) hG p3 nn 0 0 (uI (uI Ic1 1 1 0) 44 5 1) (by omega) (by decide) hV1.2.2.2.2.2.2.1.1 (fun q hq => absurd hq (by omega))
  obtain ⟨Ir2, z1, z2, z3⟩ := inr (L := L) (xs := xs) (d := d' + 6) (R := Rr) (J := Jr1) hGr p3 nn 0 0 xmk (uI Ir1 86 35 1) (by omega) (by decide) hV1.2.2.2.2.2.2.1.2 (fun q hq => absurd hq (by omega))
  have hV2 : VR_3 np nm nn l Ic2 Ir2 := VR_t_3 hV1 (fun c q c1 c2 => y2 c q (by omega) (by omega)) (fun c q hc => z2 c q (by omega) (by omega))
  have hW : jw_3 np nn Ic2 Ir2 := by
    obtain ⟨-, -, -, -, -, -, -, q7, q8, q9, -, -, -, -, -, q16, q17⟩ := hV2
    refine ⟨fun q hq => ?_, fun q hq => ?_⟩
    · obtain ⟨e1, -⟩ := q9 q hq
      obtain ⟨g1, g2, -⟩ := q16 q hq
      rw [(y3 q hq).1, (y3 q hq).2, (z3 q hq).1, (z3 q hq).2, ← e1]
      exact ⟨rfl, rfl, g1, g2⟩
    · rw [cIn_e (f := fun i => (Ic2 47 i).toInt) (g := fun i => (Ic2 11 i).toInt) nn (fun i hi => by show (Ic2 47 i).toInt = (Ic2 11 i).toInt; rw [(y3 i hi).1])]
      exact (q17 q hq).2
  have hE : rwE m Ic2 Ir2 := by
    intro q hq
    rw [y2 45 q (by decide) (by decide), y2 46 q (by decide) (by decide), z2 104 q (by decide) (by decide), z2 105 q (by decide) (by decide), uI_n _ _ (by omega), uI_n _ _ (by omega), uI_n _ _ (by omega), uI_n _ _ (by omega), uI_n _ _ (by omega), uI_n _ _ (by omega)]
    exact m4 q hq
  have s1 : (Ic2 44 4).toInt = m := by rw [y2 44 4 (by decide) (by decide), uI_n _ _ (by omega), uI_n _ _ (by omega)]; exact m2
  have s2 : (Ir2 86 30).toInt = m := by rw [z2 86 30 (by decide) (by decide), uI_n _ _ (by omega)]; exact m3
  obtain ⟨r1, r2, Ic3, Ir3, w1, w2, w3, w4, w5, w6⟩ := jlp_3 (L := L) (xs := xs) (d := d) (d' := d' + 2) (Jc := Jc1) (Jr := Jr1) hG hGr m1 m 0 0 0 Ic2 Ir2 (by omega) (by decide) (by rw [if_pos rfl]; decide) hV2 hW hE s1 s2
  have t1 : Ic3 44 4 = Ic2 44 4 := w3 44 4 (by decide) (by decide)
  have fin : xEv L xs (d + 3) 61 0 [.ref 0, .int r1] [] (124, Ic3, Jc1, R) (some (.int r2)) (124, Ic3, Jc1, R) := by
    rcases w6 with ⟨a1, a2⟩ | ⟨a1, a2⟩
    · rw [a2]
      exact rw_0 hG (by rw [t1, a1])
    · rw [a2]
      exact rw_1 hG (by rw [t1]; omega)
  refine ⟨r2, Ic3, Ir3, _, _, ju_y_3 hG x1 h8 (da_s_3 hG (y1 w1)) fin, jr_s hGr x2 (z1 w2), Or.inr ⟨?_, ?_, fun q hq => ?_⟩⟩
  · rw [w3 44 5 (by decide) (by decide), y2 44 5 (by decide) (by decide), uI_s]
  · rw [w4 86 35 (by decide) (by decide), z2 86 35 (by decide) (by decide), uI_s]
  · obtain ⟨a1, a2, -⟩ := w5.1 q hq
    exact ⟨a1, a2⟩
theorem jdg_3 {L : Nat} {xs : Nat → Int32} {d : Nat} {I : Nat → Nat → Int32} {J : Nat → Nat → Int64} {R : Nat → Nat → Nat} {d' : Nat} (hG : aGd R) (h8 : R 0 8 = 4) {np nm nn : Nat} {l : List (Nat × Nat)} (hV : VR_3 np nm nn l I I) (hJ : jdS nn I) (a b : Int32) : ∃ r : Int32, xEv L xs (d + 1) 62 0 [.ref 0, .int a, .int b] [] (124, I, J, R) (some (.int r)) (124, I, J, R) ∧ xEv L xs (d' + 2) 181 0 [.ref 86, .int a, .int b] [] (124, I, J, R) (some (.int r)) (124, I, J, R) := by
  obtain ⟨⟨p1, p2, p3⟩, p4, p5, p6, ⟨q1, q2⟩, ⟨q3, q4⟩, ⟨q5, q6⟩, q7, q8, q9, -⟩ := hV
  rcases hn_run_3 (L := L) (xs := xs) (d := d) (I := I) (J := J) hG q5 a with ⟨ha, xa⟩ | ⟨ha, xa⟩
  rotate_left
  · rcases ie_run (L := L) (xs := xs) (d := d') (I := I) (J := J) hG q6 a with ⟨hb, xb⟩ | ⟨hb, xb⟩
    · exact absurd hb ha
    · exact ⟨-2, jd_x_3 hG h8 xa, jm_x hG xb⟩
  rcases ie_run (L := L) (xs := xs) (d := d') (I := I) (J := J) hG q6 a with ⟨hb, xb⟩ | ⟨hb, xb⟩
  rotate_left
  · exact absurd ha hb
  rcases hJ with ⟨j1, j2⟩ | ⟨j1, j2, j3⟩
  · exact ⟨-1, jd_n_3 hG h8 xa (by rw [j1]; decide), jm_n hG xb (by rw [j2]; decide)⟩
  have k1 : (I 44 5).toInt ≠ 0 := by rw [j1]; decide
  have k2 : (I 86 35).toInt ≠ 0 := by rw [j2]; decide
  have ec := clamp_s (i := a) ha.1
  have hnn : a.toNatClampNeg < nn := by omega
  obtain ⟨e1, e2⟩ := j3 _ hnn
  obtain ⟨-, e3, -⟩ := q9 _ hnn
  have at1 : ∀ c, (∀ g : FieldType → Nat → Option xR, xarr (124, I, J, R) c g = g .int 4) → xEv L xs d 39 0 [.ref c, .int a] [] (124, I, J, R) (some (.int (I c a.toNatClampNeg))) (124, I, J, R) := by
    intro c ho
    have h4 := at_run (L := L) (xs := xs) (d := d) (h := (124, I, J, R)) ho (by decide) a
    rw [if_pos ⟨by omega, by omega⟩] at h4
    exact h4
  have a1 := at1 47 (fun _ => rfl)
  have a2 := at1 48 (fun _ => rfl)
  have a3 := at1 12 (fun _ => rfl)
  rw [e1] at a1
  rw [e2] at a2
  rw [e3] at a3
  by_cases b0 : b.toInt = 0
  · exact ⟨_, jd_0_3 hG h8 xa k1 b0 a1, jm_0 hG xb k2 b0 (by omega) (by omega)⟩
  by_cases b1 : b.toInt = 1
  · by_cases hq : (I 107 a.toNatClampNeg).toInt = (I 97 a.toNatClampNeg).toInt
    · exact ⟨1, jd_1_3 hG h8 xa k1 b1 a2 a3 hq, jm_1 hG xb k2 b0 b1 (by omega) (by omega) (by omega) (by omega) hq⟩
    · exact ⟨0, jd_2_3 hG h8 xa k1 b1 a2 a3 hq, jm_2 hG xb k2 b0 b1 (by omega) (by omega) (by omega) (by omega) hq⟩
  · exact ⟨-1, jd_d_3 hG h8 xa k1 ⟨b0, b1⟩, jm_d hG xb k2 b0 b1⟩
set_option maxRecDepth 20000 in
theorem jd_x_23 {L : Nat} {xs : Nat → Int32} {d : Nat} {I : Nat → Nat → Int32} {J : Nat → Nat → Int64} {R : Nat → Nat → Nat} {a b : Int32} (hG : aGd R) (r_R_0_8 : R 0 8 = 24) (c1 : xEv L xs d 59 0 [.ref 23, .int a] [] (124, I, J, R) (some (.int 0)) (124, I, J, R)) : xEv L xs (d + 1) 62 0 [.ref 0, .int a, .int b] [] (124, I, J, R) (some (.int (-2))) (124, I, J, R) := by
  refine ev_go 1 (pc1 := 1) (lv1 := [.ref 0, .int a, .int b]) (st1 := [.ref 0]) (h1 := (124, I, J, R)) rfl ?_
  refine ev_gf (c := 0) (t := 23) (X := R 0 8) rfl rfl (fun _ => rfl) rfl r_R_0_8 ?_
  refine ev_go 1 (pc1 := 5) (lv1 := [.ref 0, .int a, .int b]) (st1 := [.int a, .ref 23]) (h1 := (124, I, J, R)) rfl ?_
  refine ev_call (v1 := (some (.int 0))) (h1 := (124, I, J, R)) rfl rfl c1 ?_
  refine ev_go 2 (pc1 := 13) (lv1 := [.ref 0, .int a, .int b]) (st1 := [.int (-2)]) (h1 := (124, I, J, R)) rfl ?_
  exact ev_ret rfl rfl
set_option maxRecDepth 20000 in
theorem jd_n_23 {L : Nat} {xs : Nat → Int32} {d : Nat} {I : Nat → Nat → Int32} {J : Nat → Nat → Int64} {R : Nat → Nat → Nat} {a b : Int32} (hG : aGd R) (r_R_0_8 : R 0 8 = 24) (c1 : xEv L xs d 59 0 [.ref 23, .int a] [] (124, I, J, R) (some (.int 1)) (124, I, J, R)) (b1 : (I 44 5).toInt = 0) : xEv L xs (d + 1) 62 0 [.ref 0, .int a, .int b] [] (124, I, J, R) (some (.int (-1))) (124, I, J, R) := by
  refine ev_go 1 (pc1 := 1) (lv1 := [.ref 0, .int a, .int b]) (st1 := [.ref 0]) (h1 := (124, I, J, R)) rfl ?_
  refine ev_gf (c := 0) (t := 23) (X := R 0 8) rfl rfl (fun _ => rfl) rfl r_R_0_8 ?_
  refine ev_go 1 (pc1 := 5) (lv1 := [.ref 0, .int a, .int b]) (st1 := [.int a, .ref 23]) (h1 := (124, I, J, R)) rfl ?_
  refine ev_call (v1 := (some (.int 1))) (h1 := (124, I, J, R)) rfl rfl c1 ?_
  refine ev_go 2 (pc1 := 15) (lv1 := [.ref 0, .int a, .int b]) (st1 := [.ref 0]) (h1 := (124, I, J, R)) rfl ?_
  refine ev_gf (c := 0) (t := 44) (X := R 0 2) rfl rfl (fun _ => rfl) rfl (hG 0 2 44 rfl rfl) ?_
  refine ev_go 1 (pc1 := 21) (lv1 := [.ref 0, .int a, .int b]) (st1 := [.int (I 44 5)]) (h1 := (124, I, J, R)) rfl ?_
  refine ev_br (b1 := false) rfl rfl (xcd_nne (x := (I 44 5)) (y := 0) (by rw [show ((0 : Int32)).toInt = 0 from by decide]; first | exact b1 | omega)) ?_
  refine ev_go 1 (pc1 := 25) (lv1 := [.ref 0, .int a, .int b]) (st1 := [.int (-1)]) (h1 := (124, I, J, R)) rfl ?_
  exact ev_ret rfl rfl
set_option maxRecDepth 20000 in
theorem jd_0_23 {L : Nat} {xs : Nat → Int32} {d : Nat} {I : Nat → Nat → Int32} {J : Nat → Nat → Int64} {R : Nat → Nat → Nat} {a b r1 : Int32} (hG : aGd R) (r_R_0_8 : R 0 8 = 24) (c1 : xEv L xs d 59 0 [.ref 23, .int a] [] (124, I, J, R) (some (.int 1)) (124, I, J, R)) (b1 : (I 44 5).toInt ≠ 0) (b2 : b.toInt = 0) (c2 : xEv L xs d 39 0 [.ref 47, .int a] [] (124, I, J, R) (some (.int r1)) (124, I, J, R)) : xEv L xs (d + 1) 62 0 [.ref 0, .int a, .int b] [] (124, I, J, R) (some (.int r1)) (124, I, J, R) := by
  refine ev_go 1 (pc1 := 1) (lv1 := [.ref 0, .int a, .int b]) (st1 := [.ref 0]) (h1 := (124, I, J, R)) rfl ?_
  refine ev_gf (c := 0) (t := 23) (X := R 0 8) rfl rfl (fun _ => rfl) rfl r_R_0_8 ?_
  refine ev_go 1 (pc1 := 5) (lv1 := [.ref 0, .int a, .int b]) (st1 := [.int a, .ref 23]) (h1 := (124, I, J, R)) rfl ?_
  refine ev_call (v1 := (some (.int 1))) (h1 := (124, I, J, R)) rfl rfl c1 ?_
  refine ev_go 2 (pc1 := 15) (lv1 := [.ref 0, .int a, .int b]) (st1 := [.ref 0]) (h1 := (124, I, J, R)) rfl ?_
  refine ev_gf (c := 0) (t := 44) (X := R 0 2) rfl rfl (fun _ => rfl) rfl (hG 0 2 44 rfl rfl) ?_
  refine ev_go 1 (pc1 := 21) (lv1 := [.ref 0, .int a, .int b]) (st1 := [.int (I 44 5)]) (h1 := (124, I, J, R)) rfl ?_
  refine ev_br (b1 := true) rfl rfl (xcd_ne (x := (I 44 5)) (y := 0) (by rw [show ((0 : Int32)).toInt = 0 from by decide]; first | exact b1 | omega)) ?_
  refine ev_go 1 (pc1 := 27) (lv1 := [.ref 0, .int a, .int b]) (st1 := [.int b]) (h1 := (124, I, J, R)) rfl ?_
  refine ev_lk1 (x := b) (z := 0) (t := 52) rfl rfl b2 rfl rfl ?_
  refine ev_go 1 (pc1 := 53) (lv1 := [.ref 0, .int a, .int b]) (st1 := [.ref 0]) (h1 := (124, I, J, R)) rfl ?_
  refine ev_gf (c := 0) (t := 44) (X := R 0 2) rfl rfl (fun _ => rfl) rfl (hG 0 2 44 rfl rfl) ?_
  refine ev_gf (c := 44) (t := 47) (X := R 44 2) rfl rfl (fun _ => rfl) rfl (hG 44 2 47 rfl rfl) ?_
  refine ev_go 1 (pc1 := 60) (lv1 := [.ref 0, .int a, .int b]) (st1 := [.int a, .ref 47]) (h1 := (124, I, J, R)) rfl ?_
  refine ev_call (v1 := (some (.int r1))) (h1 := (124, I, J, R)) rfl rfl c2 ?_
  exact ev_ret rfl rfl
set_option maxRecDepth 20000 in
theorem jd_1_23 {L : Nat} {xs : Nat → Int32} {d : Nat} {I : Nat → Nat → Int32} {J : Nat → Nat → Int64} {R : Nat → Nat → Nat} {a b r1 r2 : Int32} (hG : aGd R) (r_R_0_8 : R 0 8 = 24) (c1 : xEv L xs d 59 0 [.ref 23, .int a] [] (124, I, J, R) (some (.int 1)) (124, I, J, R)) (b1 : (I 44 5).toInt ≠ 0) (b2 : b.toInt = 1) (c2 : xEv L xs d 39 0 [.ref 48, .int a] [] (124, I, J, R) (some (.int r1)) (124, I, J, R)) (c3 : xEv L xs d 39 0 [.ref 32, .int a] [] (124, I, J, R) (some (.int r2)) (124, I, J, R)) (b3 : r1.toInt = r2.toInt) : xEv L xs (d + 1) 62 0 [.ref 0, .int a, .int b] [] (124, I, J, R) (some (.int 1)) (124, I, J, R) := by
  refine ev_go 1 (pc1 := 1) (lv1 := [.ref 0, .int a, .int b]) (st1 := [.ref 0]) (h1 := (124, I, J, R)) rfl ?_
  refine ev_gf (c := 0) (t := 23) (X := R 0 8) rfl rfl (fun _ => rfl) rfl r_R_0_8 ?_
  refine ev_go 1 (pc1 := 5) (lv1 := [.ref 0, .int a, .int b]) (st1 := [.int a, .ref 23]) (h1 := (124, I, J, R)) rfl ?_
  refine ev_call (v1 := (some (.int 1))) (h1 := (124, I, J, R)) rfl rfl c1 ?_
  refine ev_go 2 (pc1 := 15) (lv1 := [.ref 0, .int a, .int b]) (st1 := [.ref 0]) (h1 := (124, I, J, R)) rfl ?_
  refine ev_gf (c := 0) (t := 44) (X := R 0 2) rfl rfl (fun _ => rfl) rfl (hG 0 2 44 rfl rfl) ?_
  refine ev_go 1 (pc1 := 21) (lv1 := [.ref 0, .int a, .int b]) (st1 := [.int (I 44 5)]) (h1 := (124, I, J, R)) rfl ?_
  refine ev_br (b1 := true) rfl rfl (xcd_ne (x := (I 44 5)) (y := 0) (by rw [show ((0 : Int32)).toInt = 0 from by decide]; first | exact b1 | omega)) ?_
  refine ev_go 1 (pc1 := 27) (lv1 := [.ref 0, .int a, .int b]) (st1 := [.int b]) (h1 := (124, I, J, R)) rfl ?_
  refine ev_lk1 (x := b) (z := 1) (t := 64) rfl rfl b2 rfl rfl ?_
  refine ev_go 1 (pc1 := 65) (lv1 := [.ref 0, .int a, .int b]) (st1 := [.ref 0]) (h1 := (124, I, J, R)) rfl ?_
  refine ev_gf (c := 0) (t := 44) (X := R 0 2) rfl rfl (fun _ => rfl) rfl (hG 0 2 44 rfl rfl) ?_
  refine ev_gf (c := 44) (t := 48) (X := R 44 3) rfl rfl (fun _ => rfl) rfl (hG 44 3 48 rfl rfl) ?_
  refine ev_go 1 (pc1 := 72) (lv1 := [.ref 0, .int a, .int b]) (st1 := [.int a, .ref 48]) (h1 := (124, I, J, R)) rfl ?_
  refine ev_call (v1 := (some (.int r1))) (h1 := (124, I, J, R)) rfl rfl c2 ?_
  refine ev_go 1 (pc1 := 76) (lv1 := [.ref 0, .int a, .int b]) (st1 := [.ref 0, .int r1]) (h1 := (124, I, J, R)) rfl ?_
  refine ev_gf (c := 0) (t := 23) (X := R 0 8) rfl rfl (fun _ => rfl) rfl r_R_0_8 ?_
  refine ev_gf (c := 23) (t := 32) (X := R 23 8) rfl rfl (fun _ => rfl) rfl (hG 23 8 32 rfl rfl) ?_
  refine ev_go 1 (pc1 := 83) (lv1 := [.ref 0, .int a, .int b]) (st1 := [.int a, .ref 32, .int r1]) (h1 := (124, I, J, R)) rfl ?_
  refine ev_call (v1 := (some (.int r2))) (h1 := (124, I, J, R)) rfl rfl c3 ?_
  refine ev_br (b1 := false) rfl rfl (xcd_nne (x := r1) (y := r2) (by first | exact b3 | omega)) ?_
  refine ev_go 2 (pc1 := 94) (lv1 := [.ref 0, .int a, .int b]) (st1 := [.int 1]) (h1 := (124, I, J, R)) rfl ?_
  exact ev_ret rfl rfl
set_option maxRecDepth 20000 in
theorem jd_2_23 {L : Nat} {xs : Nat → Int32} {d : Nat} {I : Nat → Nat → Int32} {J : Nat → Nat → Int64} {R : Nat → Nat → Nat} {a b r1 r2 : Int32} (hG : aGd R) (r_R_0_8 : R 0 8 = 24) (c1 : xEv L xs d 59 0 [.ref 23, .int a] [] (124, I, J, R) (some (.int 1)) (124, I, J, R)) (b1 : (I 44 5).toInt ≠ 0) (b2 : b.toInt = 1) (c2 : xEv L xs d 39 0 [.ref 48, .int a] [] (124, I, J, R) (some (.int r1)) (124, I, J, R)) (c3 : xEv L xs d 39 0 [.ref 32, .int a] [] (124, I, J, R) (some (.int r2)) (124, I, J, R)) (b3 : r1.toInt ≠ r2.toInt) : xEv L xs (d + 1) 62 0 [.ref 0, .int a, .int b] [] (124, I, J, R) (some (.int 0)) (124, I, J, R) := by
  refine ev_go 1 (pc1 := 1) (lv1 := [.ref 0, .int a, .int b]) (st1 := [.ref 0]) (h1 := (124, I, J, R)) rfl ?_
  refine ev_gf (c := 0) (t := 23) (X := R 0 8) rfl rfl (fun _ => rfl) rfl r_R_0_8 ?_
  refine ev_go 1 (pc1 := 5) (lv1 := [.ref 0, .int a, .int b]) (st1 := [.int a, .ref 23]) (h1 := (124, I, J, R)) rfl ?_
  refine ev_call (v1 := (some (.int 1))) (h1 := (124, I, J, R)) rfl rfl c1 ?_
  refine ev_go 2 (pc1 := 15) (lv1 := [.ref 0, .int a, .int b]) (st1 := [.ref 0]) (h1 := (124, I, J, R)) rfl ?_
  refine ev_gf (c := 0) (t := 44) (X := R 0 2) rfl rfl (fun _ => rfl) rfl (hG 0 2 44 rfl rfl) ?_
  refine ev_go 1 (pc1 := 21) (lv1 := [.ref 0, .int a, .int b]) (st1 := [.int (I 44 5)]) (h1 := (124, I, J, R)) rfl ?_
  refine ev_br (b1 := true) rfl rfl (xcd_ne (x := (I 44 5)) (y := 0) (by rw [show ((0 : Int32)).toInt = 0 from by decide]; first | exact b1 | omega)) ?_
  refine ev_go 1 (pc1 := 27) (lv1 := [.ref 0, .int a, .int b]) (st1 := [.int b]) (h1 := (124, I, J, R)) rfl ?_
  refine ev_lk1 (x := b) (z := 1) (t := 64) rfl rfl b2 rfl rfl ?_
  refine ev_go 1 (pc1 := 65) (lv1 := [.ref 0, .int a, .int b]) (st1 := [.ref 0]) (h1 := (124, I, J, R)) rfl ?_
  refine ev_gf (c := 0) (t := 44) (X := R 0 2) rfl rfl (fun _ => rfl) rfl (hG 0 2 44 rfl rfl) ?_
  refine ev_gf (c := 44) (t := 48) (X := R 44 3) rfl rfl (fun _ => rfl) rfl (hG 44 3 48 rfl rfl) ?_
  refine ev_go 1 (pc1 := 72) (lv1 := [.ref 0, .int a, .int b]) (st1 := [.int a, .ref 48]) (h1 := (124, I, J, R)) rfl ?_
  refine ev_call (v1 := (some (.int r1))) (h1 := (124, I, J, R)) rfl rfl c2 ?_
  refine ev_go 1 (pc1 := 76) (lv1 := [.ref 0, .int a, .int b]) (st1 := [.ref 0, .int r1]) (h1 := (124, I, J, R)) rfl ?_
  refine ev_gf (c := 0) (t := 23) (X := R 0 8) rfl rfl (fun _ => rfl) rfl r_R_0_8 ?_
  refine ev_gf (c := 23) (t := 32) (X := R 23 8) rfl rfl (fun _ => rfl) rfl (hG 23 8 32 rfl rfl) ?_
  refine ev_go 1 (pc1 := 83) (lv1 := [.ref 0, .int a, .int b]) (st1 := [.int a, .ref 32, .int r1]) (h1 := (124, I, J, R)) rfl ?_
  refine ev_call (v1 := (some (.int r2))) (h1 := (124, I, J, R)) rfl rfl c3 ?_
  refine ev_br (b1 := true) rfl rfl (xcd_ne (x := r1) (y := r2) (by first | exact b3 | omega)) ?_
  refine ev_go 1 (pc1 := 94) (lv1 := [.ref 0, .int a, .int b]) (st1 := [.int 0]) (h1 := (124, I, J, R)) rfl ?_
  exact ev_ret rfl rfl
set_option maxRecDepth 20000 in
theorem jd_d_23 {L : Nat} {xs : Nat → Int32} {d : Nat} {I : Nat → Nat → Int32} {J : Nat → Nat → Int64} {R : Nat → Nat → Nat} {a b : Int32} (hG : aGd R) (r_R_0_8 : R 0 8 = 24) (c1 : xEv L xs d 59 0 [.ref 23, .int a] [] (124, I, J, R) (some (.int 1)) (124, I, J, R)) (b1 : (I 44 5).toInt ≠ 0) (b2 : b.toInt ≠ 0 ∧ b.toInt ≠ 1) : xEv L xs (d + 1) 62 0 [.ref 0, .int a, .int b] [] (124, I, J, R) (some (.int (-1))) (124, I, J, R) := by
  refine ev_go 1 (pc1 := 1) (lv1 := [.ref 0, .int a, .int b]) (st1 := [.ref 0]) (h1 := (124, I, J, R)) rfl ?_
  refine ev_gf (c := 0) (t := 23) (X := R 0 8) rfl rfl (fun _ => rfl) rfl r_R_0_8 ?_
  refine ev_go 1 (pc1 := 5) (lv1 := [.ref 0, .int a, .int b]) (st1 := [.int a, .ref 23]) (h1 := (124, I, J, R)) rfl ?_
  refine ev_call (v1 := (some (.int 1))) (h1 := (124, I, J, R)) rfl rfl c1 ?_
  refine ev_go 2 (pc1 := 15) (lv1 := [.ref 0, .int a, .int b]) (st1 := [.ref 0]) (h1 := (124, I, J, R)) rfl ?_
  refine ev_gf (c := 0) (t := 44) (X := R 0 2) rfl rfl (fun _ => rfl) rfl (hG 0 2 44 rfl rfl) ?_
  refine ev_go 1 (pc1 := 21) (lv1 := [.ref 0, .int a, .int b]) (st1 := [.int (I 44 5)]) (h1 := (124, I, J, R)) rfl ?_
  refine ev_br (b1 := true) rfl rfl (xcd_ne (x := (I 44 5)) (y := 0) (by rw [show ((0 : Int32)).toInt = 0 from by decide]; first | exact b1 | omega)) ?_
  refine ev_go 1 (pc1 := 27) (lv1 := [.ref 0, .int a, .int b]) (st1 := [.int b]) (h1 := (124, I, J, R)) rfl ?_
  refine ev_lkp (x := b) (t := 95) rfl rfl (fun p hp => by have hp' : p ∈ [((0 : Int), (25 : Int)), (1, 37)] := hp; simp only [List.mem_cons, List.not_mem_nil, or_false] at hp'; rcases hp' with rfl | rfl; exact b2.1; exact b2.2) rfl ?_
  refine ev_go 1 (pc1 := 96) (lv1 := [.ref 0, .int a, .int b]) (st1 := [.int (-1)]) (h1 := (124, I, J, R)) rfl ?_
  exact ev_ret rfl rfl
theorem jud_23 {L : Nat} {xs : Nat → Int32} {d d' : Nat} {R Rr : Nat → Nat → Nat} {n : Nat} {Ic Ir : Nat → Nat → Int32} {Jc Jr : Nat → Nat → Int64} (hG : aGd R) (hGr : aGd Rr) (h8 : R 0 8 = 24) (h4 : 4 ≤ d' + 1) (hn9 : n ≤ 900) (hn : (Ic 1 1).toInt = n) (hm : (Ir 86 1).toInt = n) (hb : bM Ir n = bX Ic n) {np nm nn : Nat} {l : List (Nat × Nat)} (hV : VR_23 np nm nn l Ic Ir) :
    ∃ (r : Int32) (Ic' Ir' : Nat → Nat → Int32) (Jc' Jr' : Nat → Nat → Int64), xEv L xs (d + 4) 53 0 [.ref 0, xmk] [] (124, Ic, Jc, R) (some (.int r)) (124, Ic', Jc', R) ∧ xEv L xs (d' + 6) 172 0 [.ref 86, xmk, xmk] [] (124, Ir, Jr, Rr) (some (.int r)) (124, Ir', Jr', Rr) ∧
    ((Ic' 44 5 = Ic 44 5 ∧ Ir' 86 35 = Ir 86 35 ∧ (∀ q, Ic' 47 q = Ic 47 q ∧ Ic' 48 q = Ic 48 q ∧ Ir' 106 q = Ir 106 q ∧ Ir' 107 q = Ir 107 q)) ∨ (Ic' 44 5 = 1 ∧ Ir' 86 35 = 1 ∧ ∀ q, q < nn → Ic' 47 q = Ir' 106 q ∧ Ic' 48 q = Ir' 107 q)) := by
  obtain ⟨r, Ic1, Ir1, Jc1, Jr1, x1, x2, x3, x4, x5, x6⟩ := rws (L := L) (xs := xs) (d := d) (d' := d') (R := R) (Rr := Rr) (Jc := Jc) (Jr := Jr) hG hGr h4 hn9 (mo := 3) (by decide) hn hm rfl hb
  rcases x6 with rfl | ⟨rfl, m, m1, m2, m3, m4⟩
  · refine ⟨-1000, _, _, _, _, ju_x_23 hG x1, jr_x hGr x2, Or.inl ⟨?_, ?_, fun q => ⟨?_, ?_, ?_, ?_⟩⟩⟩
    · rw [uI_n _ _ (by omega)]; exact x3 44 5 (by omega) (by omega) (by omega) (by omega)
    · exact x4 86 35 (by omega) (by omega) (by omega) (by omega)
    · rw [uI_n _ _ (by omega)]; exact x3 47 q (by omega) (by omega) (by omega) (by omega)
    · rw [uI_n _ _ (by omega)]; exact x3 48 q (by omega) (by omega) (by omega) (by omega)
    · exact x4 106 q (by omega) (by omega) (by omega) (by omega)
    · exact x4 107 q (by omega) (by omega) (by omega) (by omega)
  have p3 := hV.1.2.2
  have hV1 : VR_23 np nm nn l (uI (uI Ic1 1 1 0) 44 5 1) (uI Ir1 86 35 1) := VR_t_23 hV (fun c q c1 c2 => by rw [uI_n _ _ (by omega), uI_n _ _ (by omega)]; exact x3 c q (by omega) (by omega) (by omega) (by omega)) (fun c q hc => by rw [uI_n _ _ (by omega)]; exact x4 c q (by omega) (by omega) (by omega) (by omega))
  obtain ⟨Ic2, y1, y2, y3⟩ := inc_23 (L := L) (xs := xs) (d := d + 2) (R := R) (J := Jc1) hG p3 nn 0 0 (uI (uI Ic1 1 1 0) 44 5 1) (by omega) (by decide) hV1.2.2.2.2.2.2.1.1 (fun q hq => absurd hq (by omega))
  obtain ⟨Ir2, z1, z2, z3⟩ := inr (L := L) (xs := xs) (d := d' + 6) (R := Rr) (J := Jr1) hGr p3 nn 0 0 xmk (uI Ir1 86 35 1) (by omega) (by decide) hV1.2.2.2.2.2.2.1.2 (fun q hq => absurd hq (by omega))
  have hV2 : VR_23 np nm nn l Ic2 Ir2 := VR_t_23 hV1 (fun c q c1 c2 => y2 c q (by omega) (by omega)) (fun c q hc => z2 c q (by omega) (by omega))
  have hW : jw_23 np nn Ic2 Ir2 := by
    obtain ⟨-, -, -, -, -, -, -, q7, q8, q9, -, -, -, -, -, q16, q17⟩ := hV2
    refine ⟨fun q hq => ?_, fun q hq => ?_⟩
    · obtain ⟨e1, -⟩ := q9 q hq
      obtain ⟨g1, g2, -⟩ := q16 q hq
      rw [(y3 q hq).1, (y3 q hq).2, (z3 q hq).1, (z3 q hq).2, ← e1]
      exact ⟨rfl, rfl, g1, g2⟩
    · rw [cIn_e (f := fun i => (Ic2 47 i).toInt) (g := fun i => (Ic2 31 i).toInt) nn (fun i hi => by show (Ic2 47 i).toInt = (Ic2 31 i).toInt; rw [(y3 i hi).1])]
      exact (q17 q hq).2
  have hE : rwE m Ic2 Ir2 := by
    intro q hq
    rw [y2 45 q (by decide) (by decide), y2 46 q (by decide) (by decide), z2 104 q (by decide) (by decide), z2 105 q (by decide) (by decide), uI_n _ _ (by omega), uI_n _ _ (by omega), uI_n _ _ (by omega), uI_n _ _ (by omega), uI_n _ _ (by omega), uI_n _ _ (by omega)]
    exact m4 q hq
  have s1 : (Ic2 44 4).toInt = m := by rw [y2 44 4 (by decide) (by decide), uI_n _ _ (by omega), uI_n _ _ (by omega)]; exact m2
  have s2 : (Ir2 86 30).toInt = m := by rw [z2 86 30 (by decide) (by decide), uI_n _ _ (by omega)]; exact m3
  obtain ⟨r1, r2, Ic3, Ir3, w1, w2, w3, w4, w5, w6⟩ := jlp_23 (L := L) (xs := xs) (d := d) (d' := d' + 2) (Jc := Jc1) (Jr := Jr1) hG hGr m1 m 0 0 0 Ic2 Ir2 (by omega) (by decide) (by rw [if_pos rfl]; decide) hV2 hW hE s1 s2
  have t1 : Ic3 44 4 = Ic2 44 4 := w3 44 4 (by decide) (by decide)
  have fin : xEv L xs (d + 3) 61 0 [.ref 0, .int r1] [] (124, Ic3, Jc1, R) (some (.int r2)) (124, Ic3, Jc1, R) := by
    rcases w6 with ⟨a1, a2⟩ | ⟨a1, a2⟩
    · rw [a2]
      exact rw_0 hG (by rw [t1, a1])
    · rw [a2]
      exact rw_1 hG (by rw [t1]; omega)
  refine ⟨r2, Ic3, Ir3, _, _, ju_y_23 hG x1 h8 (da_s_23 hG (y1 w1)) fin, jr_s hGr x2 (z1 w2), Or.inr ⟨?_, ?_, fun q hq => ?_⟩⟩
  · rw [w3 44 5 (by decide) (by decide), y2 44 5 (by decide) (by decide), uI_s]
  · rw [w4 86 35 (by decide) (by decide), z2 86 35 (by decide) (by decide), uI_s]
  · obtain ⟨a1, a2, -⟩ := w5.1 q hq
    exact ⟨a1, a2⟩
theorem jdg_23 {L : Nat} {xs : Nat → Int32} {d : Nat} {I : Nat → Nat → Int32} {J : Nat → Nat → Int64} {R : Nat → Nat → Nat} {d' : Nat} (hG : aGd R) (h8 : R 0 8 = 24) {np nm nn : Nat} {l : List (Nat × Nat)} (hV : VR_23 np nm nn l I I) (hJ : jdS nn I) (a b : Int32) : ∃ r : Int32, xEv L xs (d + 1) 62 0 [.ref 0, .int a, .int b] [] (124, I, J, R) (some (.int r)) (124, I, J, R) ∧ xEv L xs (d' + 2) 181 0 [.ref 86, .int a, .int b] [] (124, I, J, R) (some (.int r)) (124, I, J, R) := by
  obtain ⟨⟨p1, p2, p3⟩, p4, p5, p6, ⟨q1, q2⟩, ⟨q3, q4⟩, ⟨q5, q6⟩, q7, q8, q9, -⟩ := hV
  rcases hn_run_23 (L := L) (xs := xs) (d := d) (I := I) (J := J) hG q5 a with ⟨ha, xa⟩ | ⟨ha, xa⟩
  rotate_left
  · rcases ie_run (L := L) (xs := xs) (d := d') (I := I) (J := J) hG q6 a with ⟨hb, xb⟩ | ⟨hb, xb⟩
    · exact absurd hb ha
    · exact ⟨-2, jd_x_23 hG h8 xa, jm_x hG xb⟩
  rcases ie_run (L := L) (xs := xs) (d := d') (I := I) (J := J) hG q6 a with ⟨hb, xb⟩ | ⟨hb, xb⟩
  rotate_left
  · exact absurd ha hb
  rcases hJ with ⟨j1, j2⟩ | ⟨j1, j2, j3⟩
  · exact ⟨-1, jd_n_23 hG h8 xa (by rw [j1]; decide), jm_n hG xb (by rw [j2]; decide)⟩
  have k1 : (I 44 5).toInt ≠ 0 := by rw [j1]; decide
  have k2 : (I 86 35).toInt ≠ 0 := by rw [j2]; decide
  have ec := clamp_s (i := a) ha.1
  have hnn : a.toNatClampNeg < nn := by omega
  obtain ⟨e1, e2⟩ := j3 _ hnn
  obtain ⟨-, e3, -⟩ := q9 _ hnn
  have at1 : ∀ c, (∀ g : FieldType → Nat → Option xR, xarr (124, I, J, R) c g = g .int 4) → xEv L xs d 39 0 [.ref c, .int a] [] (124, I, J, R) (some (.int (I c a.toNatClampNeg))) (124, I, J, R) := by
    intro c ho
    have h4 := at_run (L := L) (xs := xs) (d := d) (h := (124, I, J, R)) ho (by decide) a
    rw [if_pos ⟨by omega, by omega⟩] at h4
    exact h4
  have a1 := at1 47 (fun _ => rfl)
  have a2 := at1 48 (fun _ => rfl)
  have a3 := at1 32 (fun _ => rfl)
  rw [e1] at a1
  rw [e2] at a2
  rw [e3] at a3
  by_cases b0 : b.toInt = 0
  · exact ⟨_, jd_0_23 hG h8 xa k1 b0 a1, jm_0 hG xb k2 b0 (by omega) (by omega)⟩
  by_cases b1 : b.toInt = 1
  · by_cases hq : (I 107 a.toNatClampNeg).toInt = (I 97 a.toNatClampNeg).toInt
    · exact ⟨1, jd_1_23 hG h8 xa k1 b1 a2 a3 hq, jm_1 hG xb k2 b0 b1 (by omega) (by omega) (by omega) (by omega) hq⟩
    · exact ⟨0, jd_2_23 hG h8 xa k1 b1 a2 a3 hq, jm_2 hG xb k2 b0 b1 (by omega) (by omega) (by omega) (by omega) hq⟩
  · exact ⟨-1, jd_d_23 hG h8 xa k1 ⟨b0, b1⟩, jm_d hG xb k2 b0 b1⟩
