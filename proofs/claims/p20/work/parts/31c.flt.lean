set_option maxRecDepth 20000 in
theorem ju_0 {L : Nat} {xs : Nat → Int32} {d : Nat} {I : Nat → Nat → Int32} {J : Nat → Nat → Int64} {R : Nat → Nat → Nat} {I1 : Nat → Nat → Int32} {J1 : Nat → Nat → Int64} {R1 : Nat → Nat → Nat} (hG : aGd R) (c1 : xEv L xs d 173 0 [.ref 86, .int 3, xmk] [] (124, I, J, R) (some (.int 0)) (124, I1, J1, R1)) (hG1 : aGd R1) : xEv L xs (d + 1) 172 0 [.ref 86, xmk, xmk] [] (124, I, J, R) (some (.int (-1000))) (124, I1, J1, R1) := by
  refine ev_go 2 (pc1 := 2) (lv1 := [.ref 86, xmk, xmk]) (st1 := [.int 3, .ref 86]) (h1 := (124, I, J, R)) rfl ?_
  refine ev_call (v1 := (some (.int 0))) (h1 := (124, I1, J1, R1)) rfl rfl c1 ?_
  refine ev_go 2 (pc1 := 11) (lv1 := [.ref 86, xmk, xmk]) (st1 := [.int (-1000)]) (h1 := (124, I1, J1, R1)) rfl ?_
  exact ev_ret rfl rfl
set_option maxRecDepth 20000 in
theorem ju_1 {L : Nat} {xs : Nat → Int32} {d : Nat} {I : Nat → Nat → Int32} {J : Nat → Nat → Int64} {R : Nat → Nat → Nat} {I1 : Nat → Nat → Int32} {J1 : Nat → Nat → Int64} {R1 : Nat → Nat → Nat} (hG : aGd R) (c1 : xEv L xs d 173 0 [.ref 86, .int 3, xmk] [] (124, I, J, R) (some (.int 1)) (124, I1, J1, R1)) (hG1 : aGd R1) {v : Option Value} {h' : xH} (hk : xEv L xs (d + 1) 172 19 [.ref 86, .int 0, xmk] [] (124, (uI I1 86 35 1), J1, R1) v h') : xEv L xs (d + 1) 172 0 [.ref 86, xmk, xmk] [] (124, I, J, R) v h' := by
  refine ev_go 2 (pc1 := 2) (lv1 := [.ref 86, xmk, xmk]) (st1 := [.int 3, .ref 86]) (h1 := (124, I, J, R)) rfl ?_
  refine ev_call (v1 := (some (.int 1))) (h1 := (124, I1, J1, R1)) rfl rfl c1 ?_
  refine ev_go 6 (pc1 := 19) (lv1 := [.ref 86, .int 0, xmk]) (st1 := []) (h1 := (124, (uI I1 86 35 1), J1, R1)) rfl ?_
  exact hk
set_option maxRecDepth 20000 in
theorem ju_a {L : Nat} {xs : Nat → Int32} {d : Nat} {I : Nat → Nat → Int32} {J : Nat → Nat → Int64} {R : Nat → Nat → Nat} {n : Int32} {w : Value} (hG : aGd R) (b1 : n.toInt ≥ (I 88 2).toInt) {v : Option Value} {h' : xH} (hk : xEv L xs d 172 63 [.ref 86, .int 0, .int 0] [] (124, I, J, R) v h') : xEv L xs d 172 19 [.ref 86, .int n, w] [] (124, I, J, R) v h' := by
  refine ev_go 2 (pc1 := 21) (lv1 := [.ref 86, .int n, w]) (st1 := [.ref 86, .int n]) (h1 := (124, I, J, R)) rfl ?_
  refine ev_gf (c := 86) (t := 88) (X := R 86 12) rfl rfl (fun _ => rfl) rfl (hG 86 12 88 rfl rfl) ?_
  refine ev_go 2 (pc1 := 26) (lv1 := [.ref 86, .int n, w]) (st1 := [.int (I 88 2), .int n]) (h1 := (124, I, J, R)) rfl ?_
  refine ev_br (b1 := true) rfl rfl (xcd_ge (x := n) (y := (I 88 2)) (by first | exact b1 | omega)) ?_
  refine ev_go 4 (pc1 := 63) (lv1 := [.ref 86, .int 0, .int 0]) (st1 := []) (h1 := (124, I, J, R)) rfl ?_
  exact hk
set_option maxRecDepth 20000 in
theorem ju_b {L : Nat} {xs : Nat → Int32} {d : Nat} {I : Nat → Nat → Int32} {J : Nat → Nat → Int64} {R : Nat → Nat → Nat} {n : Int32} {w : Value} (hG : aGd R) (b1 : n.toInt < (I 88 2).toInt) (n1 : 0 ≤ n.toInt) (m1 : n.toInt < 8) (n2 : 0 ≤ n.toInt) (m2 : n.toInt < 4) (n3 : 0 ≤ n.toInt) (m3 : n.toInt < 8) (n4 : 0 ≤ n.toInt) (m4 : n.toInt < 4) {v : Option Value} {h' : xH} (hk : xEv L xs d 172 19 [.ref 86, .int (n + 1), w] [] (124, (uI (uI I 106 n.toNatClampNeg (I 96 n.toNatClampNeg)) 107 n.toNatClampNeg (I 96 n.toNatClampNeg)), J, R) v h') : xEv L xs d 172 19 [.ref 86, .int n, w] [] (124, I, J, R) v h' := by
  refine ev_go 2 (pc1 := 21) (lv1 := [.ref 86, .int n, w]) (st1 := [.ref 86, .int n]) (h1 := (124, I, J, R)) rfl ?_
  refine ev_gf (c := 86) (t := 88) (X := R 86 12) rfl rfl (fun _ => rfl) rfl (hG 86 12 88 rfl rfl) ?_
  refine ev_go 2 (pc1 := 26) (lv1 := [.ref 86, .int n, w]) (st1 := [.int (I 88 2), .int n]) (h1 := (124, I, J, R)) rfl ?_
  refine ev_br (b1 := false) rfl rfl (xcd_nge (x := n) (y := (I 88 2)) (by first | exact b1 | omega)) ?_
  refine ev_go 1 (pc1 := 30) (lv1 := [.ref 86, .int n, w]) (st1 := [.ref 86]) (h1 := (124, I, J, R)) rfl ?_
  refine ev_gf (c := 86) (t := 106) (X := R 86 36) rfl rfl (fun _ => rfl) rfl (hG 86 36 106 rfl rfl) ?_
  refine ev_go 2 (pc1 := 35) (lv1 := [.ref 86, .int n, w]) (st1 := [.ref 86, .int n, .ref 106]) (h1 := (124, I, J, R)) rfl ?_
  refine ev_gf (c := 86) (t := 96) (X := R 86 20) rfl rfl (fun _ => rfl) rfl (hG 86 20 96 rfl rfl) ?_
  refine ev_go 1 (pc1 := 39) (lv1 := [.ref 86, .int n, w]) (st1 := [.int n, .ref 96, .int n, .ref 106]) (h1 := (124, I, J, R)) rfl ?_
  refine ev_ild (n := 8) rfl rfl (fun _ => rfl) n1 m1 ?_
  refine ev_ist (n := 4) rfl rfl (fun _ => rfl) n2 m2 ?_
  refine ev_go 1 (pc1 := 42) (lv1 := [.ref 86, .int n, w]) (st1 := [.ref 86]) (h1 := (124, (uI I 106 n.toNatClampNeg (I 96 n.toNatClampNeg)), J, R)) rfl ?_
  refine ev_gf (c := 86) (t := 107) (X := R 86 37) rfl rfl (fun _ => rfl) rfl (hG 86 37 107 rfl rfl) ?_
  refine ev_go 2 (pc1 := 47) (lv1 := [.ref 86, .int n, w]) (st1 := [.ref 86, .int n, .ref 107]) (h1 := (124, (uI I 106 n.toNatClampNeg (I 96 n.toNatClampNeg)), J, R)) rfl ?_
  refine ev_gf (c := 86) (t := 96) (X := R 86 20) rfl rfl (fun _ => rfl) rfl (hG 86 20 96 rfl rfl) ?_
  refine ev_go 1 (pc1 := 51) (lv1 := [.ref 86, .int n, w]) (st1 := [.int n, .ref 96, .int n, .ref 107]) (h1 := (124, (uI I 106 n.toNatClampNeg (I 96 n.toNatClampNeg)), J, R)) rfl ?_
  refine ev_ild (n := 8) rfl rfl (fun _ => rfl) n3 m3 ?_
  refine ev_ist (n := 4) rfl rfl (fun _ => rfl) n4 m4 ?_
  refine ev_go 2 (pc1 := 19) (lv1 := [.ref 86, .int (n + 1), w]) (st1 := []) (h1 := (124, (uI (uI I 106 n.toNatClampNeg (I 96 n.toNatClampNeg)) 107 n.toNatClampNeg (I 96 n.toNatClampNeg)), J, R)) rfl ?_
  exact hk
set_option maxRecDepth 20000 in
theorem ju_c {L : Nat} {xs : Nat → Int32} {d : Nat} {I : Nat → Nat → Int32} {J : Nat → Nat → Int64} {R : Nat → Nat → Nat} {be k : Int32} (hG : aGd R) (b1 : k.toInt ≥ (I 86 30).toInt) : xEv L xs d 172 63 [.ref 86, .int be, .int k] [] (124, I, J, R) (some (.int (I 86 30))) (124, I, J, R) := by
  refine ev_go 3 (pc1 := 68) (lv1 := [.ref 86, .int be, .int k]) (st1 := [.int (I 86 30), .int k]) (h1 := (124, I, J, R)) rfl ?_
  refine ev_br (b1 := true) rfl rfl (xcd_ge (x := k) (y := (I 86 30)) (by first | exact b1 | omega)) ?_
  refine ev_go 2 (pc1 := 101) (lv1 := [.ref 86, .int be, .int k]) (st1 := [.int (I 86 30)]) (h1 := (124, I, J, R)) rfl ?_
  exact ev_ret rfl rfl
set_option maxRecDepth 20000 in
theorem ju_d {L : Nat} {xs : Nat → Int32} {d : Nat} {I : Nat → Nat → Int32} {J : Nat → Nat → Int64} {R : Nat → Nat → Nat} {I1 : Nat → Nat → Int32} {J1 : Nat → Nat → Int64} {R1 : Nat → Nat → Nat} {be k : Int32} (hG : aGd R) (b1 : k.toInt < (I 86 30).toInt) (c1 : xEv L xs d 175 0 [.ref 86, .int k, .int be, xmk, xmk, xmk] [] (124, I, J, R) (some (.int 0)) (124, I1, J1, R1)) (hG1 : aGd R1) : xEv L xs (d + 1) 172 63 [.ref 86, .int be, .int k] [] (124, I, J, R) (some (.int ((-1) - k))) (124, I1, J1, R1) := by
  refine ev_go 3 (pc1 := 68) (lv1 := [.ref 86, .int be, .int k]) (st1 := [.int (I 86 30), .int k]) (h1 := (124, I, J, R)) rfl ?_
  refine ev_br (b1 := false) rfl rfl (xcd_nge (x := k) (y := (I 86 30)) (by first | exact b1 | omega)) ?_
  refine ev_go 3 (pc1 := 74) (lv1 := [.ref 86, .int be, .int k]) (st1 := [.int be, .int k, .ref 86]) (h1 := (124, I, J, R)) rfl ?_
  refine ev_call (v1 := (some (.int 0))) (h1 := (124, I1, J1, R1)) rfl rfl c1 ?_
  refine ev_go 4 (pc1 := 83) (lv1 := [.ref 86, .int be, .int k]) (st1 := [.int ((-1) - k)]) (h1 := (124, I1, J1, R1)) rfl ?_
  exact ev_ret rfl rfl
set_option maxRecDepth 20000 in
theorem ju_e {L : Nat} {xs : Nat → Int32} {d : Nat} {I : Nat → Nat → Int32} {J : Nat → Nat → Int64} {R : Nat → Nat → Nat} {I1 : Nat → Nat → Int32} {J1 : Nat → Nat → Int64} {R1 : Nat → Nat → Nat} {be k : Int32} (hG : aGd R) (b1 : k.toInt < (I 86 30).toInt) (c1 : xEv L xs d 175 0 [.ref 86, .int k, .int be, xmk, xmk, xmk] [] (124, I, J, R) (some (.int 1)) (124, I1, J1, R1)) (hG1 : aGd R1) (n1 : 0 ≤ k.toInt) (m1 : k.toInt < 300) {v : Option Value} {h' : xH} (hk : xEv L xs (d + 1) 172 63 [.ref 86, .int (I1 104 k.toNatClampNeg), .int (k + 1)] [] (124, I1, J1, R1) v h') : xEv L xs (d + 1) 172 63 [.ref 86, .int be, .int k] [] (124, I, J, R) v h' := by
  refine ev_go 3 (pc1 := 68) (lv1 := [.ref 86, .int be, .int k]) (st1 := [.int (I 86 30), .int k]) (h1 := (124, I, J, R)) rfl ?_
  refine ev_br (b1 := false) rfl rfl (xcd_nge (x := k) (y := (I 86 30)) (by first | exact b1 | omega)) ?_
  refine ev_go 3 (pc1 := 74) (lv1 := [.ref 86, .int be, .int k]) (st1 := [.int be, .int k, .ref 86]) (h1 := (124, I, J, R)) rfl ?_
  refine ev_call (v1 := (some (.int 1))) (h1 := (124, I1, J1, R1)) rfl rfl c1 ?_
  refine ev_go 2 (pc1 := 85) (lv1 := [.ref 86, .int be, .int k]) (st1 := [.ref 86]) (h1 := (124, I1, J1, R1)) rfl ?_
  refine ev_gf (c := 86) (t := 104) (X := R1 86 31) rfl rfl (fun _ => rfl) rfl (hG1 86 31 104 rfl rfl) ?_
  refine ev_go 1 (pc1 := 89) (lv1 := [.ref 86, .int be, .int k]) (st1 := [.int k, .ref 104]) (h1 := (124, I1, J1, R1)) rfl ?_
  refine ev_ild (n := 300) rfl rfl (fun _ => rfl) n1 m1 ?_
  refine ev_go 3 (pc1 := 63) (lv1 := [.ref 86, .int (I1 104 k.toNatClampNeg), .int (k + 1)]) (st1 := []) (h1 := (124, I1, J1, R1)) rfl ?_
  exact hk
theorem aR_F {L : Nat} {xs : Nat → Int32} {d : Nat} (hd : 8 ≤ d) {I : Nat → Nat → Int32} {J : Nat → Nat → Int64} {R : Nat → Nat → Nat} (hg : aGood (124, I, J, R)) (most : Int32) : ∃ (r : Int32) (I' : Nat → Nat → Int32) (J' : Nat → Nat → Int64) (R' : Nat → Nat → Nat), xEv L xs (d + 1) 173 0 [.ref 86, .int most, xmk] [] (124, I, J, R) (some (.int r)) (124, I', J', R') ∧ aGood (124, I', J', R') ∧ (I' 86 8 = I 86 8 ∧ I' 86 9 = I 86 9) ∧ (r = 0 ∨ (r = 1 ∧ ∀ k : Nat, (k : Int) < (I' 86 30).toInt → 0 ≤ (I' 105 k).toInt ∧ (I' 105 k).toInt ≤ most.toInt)) := by
  have gk : aGood (124, uI (uI I 86 33 (I 86 8)) 86 34 (I 86 9), J, R) := gd_I (gd_I hg (aw _).1 (aw _).2) (aw _).1 (aw _).2
  obtain ⟨v, I1, J1, R1, z1, z2, z3, z4, z5⟩ := rr_run (ol_533 20 (by decide)) (L := L) (xs := xs) hd gk most
  have ca := ar_0 (gd_of hg) z1 (gd_of z2) (by rcases z5 with h | ⟨h, -⟩; exact Or.inl h; exact Or.inr h)
  have e1 : I1 86 33 = I 86 8 := (fr_int z3 86 33 rfl).trans rfl
  have e2 : I1 86 34 = I 86 9 := (fr_int z3 86 34 rfl).trans rfl
  exact ⟨v, _, J1, R1, ca, gd_I (gd_I z2 (aw _).1 (aw _).2) (aw _).1 (aw _).2, ⟨e1, e2⟩, z5⟩
theorem fiF {L : Nat} {xs : Nat → Int32} {d : Nat} (hd : 1 ≤ d) {pn : Int32} : ∀ (q : Nat) (k on tw be : Int32) (w1 w2 : Value) (I : Nat → Nat → Int32) (J : Nat → Nat → Int64) (R : Nat → Nat → Nat), (300 - k.toInt).toNat = q → 0 ≤ k.toInt → aGood (124, I, J, R) → (∀ k : Nat, (k : Int) < (I 86 30).toInt → 0 ≤ (I 105 k).toInt ∧ (I 105 k).toInt ≤ 1) → ∃ (v : Option Value) (I' : Nat → Nat → Int32) (J' : Nat → Nat → Int64) (R' : Nat → Nat → Nat), xEv L xs (d + 1) 219 53 [.ref 86, .int pn, .int 1, .int on, .int tw, .int be, .int k, w1, w2] [] (124, I, J, R) v (124, I', J', R') ∧ I' 86 8 = I 86 8 ∧ I' 86 9 = I 86 9 := by
  intro q
  induction q with
  | zero =>
    intro k on tw be w1 w2 I J R hq hk0 hg hc
    have hy := good_int hg 86 30 rfl
    have hy2 : (aRng 86 30) = (0, 300) := rfl
    rw [hy2] at hy
    dsimp only at hy
    exact ⟨_, _, _, _, fi_e (gd_of hg) (by omega), rfl, rfl⟩
  | succ q ih =>
    intro k on tw be w1 w2 I J R hq hk0 hg hc
    have hG := gd_of hg
    have hy := good_int hg 86 30 rfl
    have hy2 : (aRng 86 30) = (0, 300) := rfl
    rw [hy2] at hy
    dsimp only at hy
    by_cases hk : k.toInt ≥ (I 86 30).toInt
    · exact ⟨_, _, _, _, fi_e (gd_of hg) hk, rfl, rfl⟩
    have ec := clamp_s (i := k) hk0
    have ei := i_add1 (x := k) (by omega)
    obtain ⟨n0, n1⟩ := hc k.toNatClampNeg (by omega)
    have x0 : k.toInt < (I 86 30).toInt := by omega
    have x1 : k.toInt < 300 := by omega
    rcases isT_run (ol_533 32 (by decide)) (L := L) (xs := xs) (d := d) hd hg (I 104 k.toNatClampNeg) with c1 | ⟨c1, t0, t1⟩
    · exact ⟨_, _, _, _, fi_a hG x0 hk0 x1 c1, rfl, rfl⟩
    by_cases hb : (I 104 k.toNatClampNeg).toInt < be.toInt
    · exact ⟨_, _, _, _, fi_b hG x0 hk0 x1 c1 hb, rfl, rfl⟩
    have hb' : (I 104 k.toNatClampNeg).toInt ≥ be.toInt := by omega
    have es : (1 - I 105 k.toNatClampNeg).toInt = 1 - (I 105 k.toNatClampNeg).toInt := i_sub (by rw [show (1 : Int32).toInt = 1 from by decide]; omega) (by rw [show (1 : Int32).toInt = 1 from by decide]; omega)
    have nx : ∀ (x1 x2 : Int32) (on tw be : Int32) (w1 w2 : Value), ∃ (v : Option Value) (I' : Nat → Nat → Int32) (J' : Nat → Nat → Int64) (R' : Nat → Nat → Nat), xEv L xs (d + 1) 219 53 [.ref 86, .int pn, .int 1, .int on, .int tw, .int be, .int (k + 1), w1, w2] [] (124, uI (uI I 118 (I 105 k.toNatClampNeg).toNatClampNeg x1) 118 (1 - I 105 k.toNatClampNeg).toNatClampNeg x2, J, R) v (124, I', J', R') ∧ I' 86 8 = I 86 8 ∧ I' 86 9 = I 86 9 := fun x1 x2 on tw be w1 w2 => ih (k + 1) on tw be w1 w2 _ J R (by omega) (by omega) (gd_I (gd_I hg (aw _).1 (aw _).2) (aw _).1 (aw _).2) hc
    by_cases hz : (I 105 k.toNatClampNeg).toInt = 0
    · obtain ⟨to, c2⟩ := met_run (ol_533 35 (by decide)) (L := L) (xs := xs) (d := d) hd hg on _ t0 t1
      by_cases ht2 : to.toInt = -1
      · exact ⟨_, _, _, _, fi_c0 hG x0 hk0 x1 c1 hb' hk0 x1 hz c2 ht2, rfl, rfl⟩
      · obtain ⟨v, I', J', R', a1, a2⟩ := nx _ _ _ _ _ _ _
        exact ⟨v, I', J', R', fi_d0 hG x0 hk0 x1 c1 hb' hk0 x1 hz c2 ht2 hk0 x1 hz hk0 x1 n0 (by omega) n0 (by omega) hk0 x1 (by omega) (by omega) (by omega) (by omega) a1, a2⟩
    · obtain ⟨to, c2⟩ := met_run (ol_533 35 (by decide)) (L := L) (xs := xs) (d := d) hd hg tw _ t0 t1
      by_cases ht2 : to.toInt = -1
      · exact ⟨_, _, _, _, fi_c1 hG x0 hk0 x1 c1 hb' hk0 x1 hz c2 ht2, rfl, rfl⟩
      · obtain ⟨v, I', J', R', a1, a2⟩ := nx _ _ _ _ _ _ _
        exact ⟨v, I', J', R', fi_d1 hG x0 hk0 x1 c1 hb' hk0 x1 hz c2 ht2 hk0 x1 hz hk0 x1 n0 (by omega) n0 (by omega) hk0 x1 (by omega) (by omega) (by omega) (by omega) a1, a2⟩
/-- fight of the reference keeps the fault -/
theorem fight_F {L : Nat} {xs : Nat → Int32} {d : Nat} (hd : 9 ≤ d) {I : Nat → Nat → Int32} {J : Nat → Nat → Int64} {R : Nat → Nat → Nat} (hg : aGood (124, I, J, R)) (pn : Int32) : ∃ (v : Option Value) (I' : Nat → Nat → Int32) (J' : Nat → Nat → Int64) (R' : Nat → Nat → Nat), xEv L xs (d + 1) 219 0 [.ref 86, .int pn, xmk, xmk, xmk, xmk, xmk, xmk, xmk] [] (124, I, J, R) v (124, I', J', R') ∧ I' 86 8 = I 86 8 ∧ I' 86 9 = I 86 9 := by
  obtain ⟨d, rfl⟩ : ∃ e, d = e + 1 := ⟨d - 1, by omega⟩
  obtain ⟨r, I1, J1, R1, ca, g2, ⟨e1, e2⟩, z5⟩ := aR_F (L := L) (xs := xs) (d := d) (by omega) hg 1
  have hG := gd_of hg
  have G2 := gd_of g2
  rcases isP_run (ol_533 30 (by decide)) (L := L) (xs := xs) (d := d + 1) (by omega) g2 pn with c2 | ⟨c2, -, -⟩
  · exact ⟨_, _, _, _, fi_1 hG ca G2 c2, e1, e2⟩
  · rcases z5 with rfl | ⟨rfl, hc⟩
    · exact ⟨_, _, _, _, fi_2 hG ca G2 c2, e1, e2⟩
    · obtain ⟨v, I', J', R', a1, a2, a3⟩ := fiF (L := L) (xs := xs) (d := d + 1) (by omega) (pn := pn) _ 0 pn pn 0 xmk xmk (uI (uI I1 118 0 (1 <<< (pn &&& 31))) 118 1 0) J1 R1 rfl (by decide) (gd_I (gd_I g2 (aw _).1 (aw _).2) (by decide) (by decide)) hc
      exact ⟨v, I', J', R', fi_3 hG ca G2 c2 a1, a2.trans e1, a3.trans e2⟩
theorem juF2 {L : Nat} {xs : Nat → Int32} {d : Nat} (hd : 3 ≤ d) : ∀ (q : Nat) (k be : Int32) (I : Nat → Nat → Int32) (J : Nat → Nat → Int64) (R : Nat → Nat → Nat), (300 - k.toInt).toNat = q → 0 ≤ k.toInt → aGood (124, I, J, R) → ∃ (v : Option Value) (I' : Nat → Nat → Int32) (J' : Nat → Nat → Int64) (R' : Nat → Nat → Nat), xEv L xs (d + 1) 172 63 [.ref 86, .int be, .int k] [] (124, I, J, R) v (124, I', J', R') ∧ I' 86 8 = I 86 8 ∧ I' 86 9 = I 86 9 := by
  intro q
  induction q with
  | zero =>
    intro k be I J R hq hk0 hg
    have hy := good_int hg 86 30 rfl
    have hy2 : (aRng 86 30) = (0, 300) := rfl
    rw [hy2] at hy
    dsimp only at hy
    exact ⟨_, _, _, _, ju_c (gd_of hg) (by omega), rfl, rfl⟩
  | succ q ih =>
    intro k be I J R hq hk0 hg
    have hy := good_int hg 86 30 rfl
    have hy2 : (aRng 86 30) = (0, 300) := rfl
    rw [hy2] at hy
    dsimp only at hy
    by_cases hk : k.toInt ≥ (I 86 30).toInt
    · exact ⟨_, _, _, _, ju_c (gd_of hg) hk, rfl, rfl⟩
    have ei := i_add1 (x := k) (by omega)
    obtain ⟨v1, ⟨n1, I1, J1, R1⟩, he, hg1, hf1, cs, hcs, hc⟩ := (ol_533 384 (by decide)) L xs d [.ref 86, .int k, .int be] (124, I, J, R) (Nat.le_trans (by decide) hd) hg ⟨g0_r (by decide), g0_i hk0 (by omega), g0_i (aw _).1 (aw _).2, rfl⟩ fok0
    have e1 : n1 = 124 := hg1.1
    subst e1
    have f8 : I1 86 8 = I 86 8 := fr_int hf1 86 8 rfl
    have f9 : I1 86 9 = I 86 9 := fr_int hf1 86 9 rfl
    have f30 : I1 86 30 = I 86 30 := fr_int hf1 86 30 rfl
    rcases List.mem_cons.mp hcs with e | hcs
    · subst e
      obtain ⟨⟨v2, q1, y, q2, q3, q4⟩, -, -, -⟩ := hc
      subst q1
      subst q2
      have ey : y = 0 := Int32.toInt_inj.mp (by rw [show (0 : Int32).toInt = 0 from by decide]; omega)
      subst ey
      exact ⟨_, _, _, _, ju_d (gd_of hg) (by omega) he (gd_of hg1), f8, f9⟩
    · rcases List.mem_cons.mp hcs with e | hcs
      · subst e
        obtain ⟨⟨v2, q1, y, q2, q3, q4⟩, -, -, -⟩ := hc
        subst q1
        subst q2
        have ey : y = 1 := Int32.toInt_inj.mp (by rw [show (1 : Int32).toInt = 1 from by decide]; omega)
        subst ey
        obtain ⟨v, I', J', R', a1, a2, a3⟩ := ih (k + 1) (I1 104 k.toNatClampNeg) I1 J1 R1 (by omega) (by omega) hg1
        exact ⟨v, I', J', R', ju_e (gd_of hg) (by omega) he (gd_of hg1) (by omega) (by omega) a1, a2.trans f8, a3.trans f9⟩
      · cases hcs
theorem juF1 {L : Nat} {xs : Nat → Int32} {d : Nat} (hd : 3 ≤ d) : ∀ (q : Nat) (n : Int32) (n' : Nat) (w : Value) (I : Nat → Nat → Int32) (J : Nat → Nat → Int64) (R : Nat → Nat → Nat), 4 - n' = q → n.toInt = n' → n' ≤ 4 → aGood (124, I, J, R) → ∃ (v : Option Value) (I' : Nat → Nat → Int32) (J' : Nat → Nat → Int64) (R' : Nat → Nat → Nat), xEv L xs (d + 1) 172 19 [.ref 86, .int n, w] [] (124, I, J, R) v (124, I', J', R') ∧ I' 86 8 = I 86 8 ∧ I' 86 9 = I 86 9 := by
  intro q
  induction q with
  | zero =>
    intro n n' w I J R hq hn hn4 hg
    have hy := good_int hg 88 2 rfl
    have hy2 : (aRng 88 2) = (0, 4) := rfl
    rw [hy2] at hy
    dsimp only at hy
    obtain ⟨v, I', J', R', a1, a2, a3⟩ := juF2 (L := L) (xs := xs) hd _ 0 0 I J R rfl (by decide) hg
    exact ⟨v, I', J', R', ju_a (gd_of hg) (by omega) a1, a2, a3⟩
  | succ q ih =>
    intro n n' w I J R hq hn hn4 hg
    by_cases hk : n.toInt ≥ (I 88 2).toInt
    · obtain ⟨v, I', J', R', a1, a2, a3⟩ := juF2 (L := L) (xs := xs) hd _ 0 0 I J R rfl (by decide) hg
      exact ⟨v, I', J', R', ju_a (gd_of hg) hk a1, a2, a3⟩
    have hy := good_int hg 88 2 rfl
    have hy2 : (aRng 88 2) = (0, 4) := rfl
    rw [hy2] at hy
    dsimp only at hy
    have ei := i_add1 (x := n) (by omega)
    have ec := clamp_s (i := n) (by omega)
    have hv := hg.2.1 96 n.toNatClampNeg (show n.toNatClampNeg < 8 by omega)
    have hv2 : (aRng 96 n.toNatClampNeg) = (0, 6) := rfl
    rw [hv2] at hv
    have hv3 : 0 ≤ (I 96 n.toNatClampNeg).toInt ∧ (I 96 n.toNatClampNeg).toInt ≤ 6 := hv
    have g2 : aGood (124, uI (uI I 106 n.toNatClampNeg (I 96 n.toNatClampNeg)) 107 n.toNatClampNeg (I 96 n.toNatClampNeg), J, R) := gd_I (gd_I hg (show (-1 : Int) ≤ _ by omega) (show _ ≤ (6 : Int) by omega)) (aw _).1 (aw _).2
    obtain ⟨v, I', J', R', a1, a2, a3⟩ := ih (n + 1) (n' + 1) w _ J R (by omega) (by omega) (by omega) g2
    exact ⟨v, I', J', R', ju_b (gd_of hg) (by omega) (by omega) (by omega) (by omega) (by omega) (by omega) (by omega) (by omega) (by omega) a1, a2, a3⟩
/-- judge of the reference keeps the fault -/
theorem judge_F {L : Nat} {xs : Nat → Int32} {d : Nat} (hd : 9 ≤ d) {I : Nat → Nat → Int32} {J : Nat → Nat → Int64} {R : Nat → Nat → Nat} (hg : aGood (124, I, J, R)) : ∃ (v : Option Value) (I' : Nat → Nat → Int32) (J' : Nat → Nat → Int64) (R' : Nat → Nat → Nat), xEv L xs (d + 1) 172 0 [.ref 86, xmk, xmk] [] (124, I, J, R) v (124, I', J', R') ∧ I' 86 8 = I 86 8 ∧ I' 86 9 = I 86 9 := by
  obtain ⟨d, rfl⟩ : ∃ e, d = e + 1 := ⟨d - 1, by omega⟩
  obtain ⟨r, I1, J1, R1, ca, g2, ⟨e1, e2⟩, z5⟩ := aR_F (L := L) (xs := xs) (d := d) (by omega) hg 3
  rcases z5 with rfl | ⟨rfl, -⟩
  · exact ⟨_, _, _, _, ju_0 (gd_of hg) ca (gd_of g2), e1, e2⟩
  · obtain ⟨v, I', J', R', a1, a2, a3⟩ := juF1 (L := L) (xs := xs) (d := d + 1) (by omega) _ 0 0 xmk (uI I1 86 35 1) J1 R1 rfl rfl (by decide) (gd_I g2 (by decide) (by decide))
    exact ⟨v, I', J', R', ju_1 (gd_of hg) ca (gd_of g2) a1, a2.trans e1, a3.trans e2⟩
