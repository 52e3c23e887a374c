/-- so many times pass, of both -/
theorem goE_3 {L : Nat} {xs : Nat → Int32} {d d' : Nat} {R Rr : Nat → Nat → Nat} (hG : aGd R) (hGr : aGd Rr) (h8 : R 0 8 = 4) {np nm nn : Nat} {l : List (Nat × Nat)} {n : Int32} (hn : n.toInt ≤ 64) : ∀ (m : Nat) (i : Int32) (I Ir : Nat → Nat → Int32) (J Jr : Nat → Nat → Int64), (n.toInt - i.toInt).toNat = m → 0 ≤ i.toInt → i.toInt ≤ n.toInt → gE_3 np nm nn l I Ir J Jr → hrS nm l Ir → I 66 5 = Ir 121 1 → 0 ≤ (I 66 5).toInt → (I 66 5).toInt + (n.toInt - i.toInt) ≤ l.length →
    ∃ (I1 Ir1 : Nat → Nat → Int32) (J1 Jr1 : Nat → Nat → Int64), xEv L xs (d + 7) 122 59 [.ref 0, .int n, .int i] [] (124, I, J, R) (some (.int (I1 66 5))) (124, I1, J1, R) ∧ xEv L xs (d' + 5) 223 45 [.ref 86, .int n, .int i] [] (124, Ir, Jr, Rr) (some (.int (Ir1 121 1))) (124, Ir1, Jr1, Rr) ∧ gE_3 np nm nn l I1 Ir1 J1 Jr1 ∧ goF I I1 Ir Ir1 J J1 Jr Jr1 ∧ I1 66 5 = Ir1 121 1 := by
  intro m
  induction m with
  | zero =>
    intro i I Ir J Jr hm h0 h1 hE hh h5 t0 tl
    exact ⟨I, Ir, J, Jr, sg_goR hG (by omega), sg_mgR hGr (by omega), hE, goF_0, h5⟩
  | succ m ih =>
    intro i I Ir J Jr hm h0 h1 hE hh h5 t0 tl
    obtain ⟨t, ht⟩ : ∃ t, I 66 5 = t := ⟨_, rfl⟩
    obtain ⟨tN, htN⟩ := Int.eq_ofNat_of_zero_le (show 0 ≤ t.toInt by rw [← ht]; exact t0)
    rw [ht] at tl
    have p4 := hE.1.2.1
    obtain ⟨I1, Ir1, J1, Jr1, x1, x2, x3, x4, x5, x6⟩ := tim1_3 (L := L) (xs := xs) (d := d) (d' := d') hG hGr hE hh ht (h5.symm.trans ht) htN (by omega)
    have ei : (i + 1).toInt = i.toInt + 1 := i_add1 (by omega)
    have et : (t + 1).toInt = t.toInt + 1 := i_add1 (by omega)
    obtain ⟨I2, Ir2, J2, Jr2, y1, y2, y3, y4, y5⟩ := ih (i + 1) I1 Ir1 J1 Jr1 (by omega) (by omega) (by omega) x3 (hrS_e hh (fun k => x4.2.2.1 94 k (by omega) (by omega))) (by rw [x5, x6]) (by rw [x5]; omega) (by rw [x5]; omega)
    exact ⟨I2, Ir2, J2, Jr2, sg_goL_3 hG (by omega) h8 x1 hG y1, sg_mgL hGr (by omega) x2 hGr y2, y3, goF_t x4 y4, y5⟩
/-- so many times pass, of both -/
theorem goE_23 {L : Nat} {xs : Nat → Int32} {d d' : Nat} {R Rr : Nat → Nat → Nat} (hG : aGd R) (hGr : aGd Rr) (h8 : R 0 8 = 24) {np nm nn : Nat} {l : List (Nat × Nat)} {n : Int32} (hn : n.toInt ≤ 64) : ∀ (m : Nat) (i : Int32) (I Ir : Nat → Nat → Int32) (J Jr : Nat → Nat → Int64), (n.toInt - i.toInt).toNat = m → 0 ≤ i.toInt → i.toInt ≤ n.toInt → gE_23 np nm nn l I Ir J Jr → hrS nm l Ir → I 66 5 = Ir 121 1 → 0 ≤ (I 66 5).toInt → (I 66 5).toInt + (n.toInt - i.toInt) ≤ l.length →
    ∃ (I1 Ir1 : Nat → Nat → Int32) (J1 Jr1 : Nat → Nat → Int64), xEv L xs (d + 7) 122 59 [.ref 0, .int n, .int i] [] (124, I, J, R) (some (.int (I1 66 5))) (124, I1, J1, R) ∧ xEv L xs (d' + 5) 223 45 [.ref 86, .int n, .int i] [] (124, Ir, Jr, Rr) (some (.int (Ir1 121 1))) (124, Ir1, Jr1, Rr) ∧ gE_23 np nm nn l I1 Ir1 J1 Jr1 ∧ goF I I1 Ir Ir1 J J1 Jr Jr1 ∧ I1 66 5 = Ir1 121 1 := by
  intro m
  induction m with
  | zero =>
    intro i I Ir J Jr hm h0 h1 hE hh h5 t0 tl
    exact ⟨I, Ir, J, Jr, sg_goR hG (by omega), sg_mgR hGr (by omega), hE, goF_0, h5⟩
  | succ m ih =>
    intro i I Ir J Jr hm h0 h1 hE hh h5 t0 tl
    obtain ⟨t, ht⟩ : ∃ t, I 66 5 = t := ⟨_, rfl⟩
    obtain ⟨tN, htN⟩ := Int.eq_ofNat_of_zero_le (show 0 ≤ t.toInt by rw [← ht]; exact t0)
    rw [ht] at tl
    have p4 := hE.1.2.1
    obtain ⟨I1, Ir1, J1, Jr1, x1, x2, x3, x4, x5, x6⟩ := tim1_23 (L := L) (xs := xs) (d := d) (d' := d') hG hGr hE hh ht (h5.symm.trans ht) htN (by omega)
    have ei : (i + 1).toInt = i.toInt + 1 := i_add1 (by omega)
    have et : (t + 1).toInt = t.toInt + 1 := i_add1 (by omega)
    obtain ⟨I2, Ir2, J2, Jr2, y1, y2, y3, y4, y5⟩ := ih (i + 1) I1 Ir1 J1 Jr1 (by omega) (by omega) (by omega) x3 (hrS_e hh (fun k => x4.2.2.1 94 k (by omega) (by omega))) (by rw [x5, x6]) (by rw [x5]; omega) (by rw [x5]; omega)
    exact ⟨I2, Ir2, J2, Jr2, sg_goL_23 hG (by omega) h8 x1 hG y1, sg_mgL hGr (by omega) x2 hGr y2, y3, goF_t x4 y4, y5⟩
set_option maxRecDepth 20000 in
theorem uq_x_3 {L : Nat} {xs : Nat → Int32} {d : Nat} {I : Nat → Nat → Int32} {J : Nat → Nat → Int64} {R : Nat → Nat → Nat} {a b c : Int32} (hG : aGd R) (r_R_0_8 : R 0 8 = 4) (c1 : xEv L xs d 59 0 [.ref 3, .int a] [] (124, I, J, R) (some (.int c)) (124, I, J, R)) (b1 : c.toInt = 0) : xEv L xs (d + 1) 133 0 [.ref 0, .int a, .int b] [] (124, I, J, R) (some (.int (-2))) (124, I, J, R) := by
  refine ev_go 1 (pc1 := 1) (lv1 := [.ref 0, .int a, .int b]) (st1 := [.ref 0]) (h1 := (124, I, J, R)) rfl ?_
  refine ev_gf (c := 0) (t := 3) (X := R 0 8) rfl rfl (fun _ => rfl) rfl r_R_0_8 ?_
  refine ev_go 1 (pc1 := 5) (lv1 := [.ref 0, .int a, .int b]) (st1 := [.int a, .ref 3]) (h1 := (124, I, J, R)) rfl ?_
  refine ev_call (v1 := (some (.int c))) (h1 := (124, I, J, R)) rfl rfl c1 ?_
  refine ev_br (b1 := true) rfl rfl (xcd_eq (x := c) (y := 0) (by rw [show ((0 : Int32)).toInt = 0 from by decide]; first | exact b1 | omega)) ?_
  refine ev_go 1 (pc1 := 22) (lv1 := [.ref 0, .int a, .int b]) (st1 := [.int (-2)]) (h1 := (124, I, J, R)) rfl ?_
  exact ev_ret rfl rfl
set_option maxRecDepth 20000 in
theorem uq_l_3 {L : Nat} {xs : Nat → Int32} {d : Nat} {I : Nat → Nat → Int32} {J : Nat → Nat → Int64} {R : Nat → Nat → Nat} {a b c : Int32} (hG : aGd R) (r_R_0_8 : R 0 8 = 4) (c1 : xEv L xs d 59 0 [.ref 3, .int a] [] (124, I, J, R) (some (.int c)) (124, I, J, R)) (b1 : c.toInt ≠ 0) (b2 : b.toInt < 0) : xEv L xs (d + 1) 133 0 [.ref 0, .int a, .int b] [] (124, I, J, R) (some (.int (-2))) (124, I, J, R) := by
  refine ev_go 1 (pc1 := 1) (lv1 := [.ref 0, .int a, .int b]) (st1 := [.ref 0]) (h1 := (124, I, J, R)) rfl ?_
  refine ev_gf (c := 0) (t := 3) (X := R 0 8) rfl rfl (fun _ => rfl) rfl r_R_0_8 ?_
  refine ev_go 1 (pc1 := 5) (lv1 := [.ref 0, .int a, .int b]) (st1 := [.int a, .ref 3]) (h1 := (124, I, J, R)) rfl ?_
  refine ev_call (v1 := (some (.int c))) (h1 := (124, I, J, R)) rfl rfl c1 ?_
  refine ev_br (b1 := false) rfl rfl (xcd_neq (x := c) (y := 0) (by rw [show ((0 : Int32)).toInt = 0 from by decide]; first | exact b1 | omega)) ?_
  refine ev_go 1 (pc1 := 12) (lv1 := [.ref 0, .int a, .int b]) (st1 := [.int b]) (h1 := (124, I, J, R)) rfl ?_
  refine ev_br (b1 := true) rfl rfl (xcd_lt (x := b) (y := 0) (by rw [show ((0 : Int32)).toInt = 0 from by decide]; first | exact b2 | omega)) ?_
  refine ev_go 1 (pc1 := 22) (lv1 := [.ref 0, .int a, .int b]) (st1 := [.int (-2)]) (h1 := (124, I, J, R)) rfl ?_
  exact ev_ret rfl rfl
set_option maxRecDepth 20000 in
theorem uq_h_3 {L : Nat} {xs : Nat → Int32} {d : Nat} {I : Nat → Nat → Int32} {J : Nat → Nat → Int64} {R : Nat → Nat → Nat} {a b c : Int32} (hG : aGd R) (r_R_0_8 : R 0 8 = 4) (c1 : xEv L xs d 59 0 [.ref 3, .int a] [] (124, I, J, R) (some (.int c)) (124, I, J, R)) (b1 : c.toInt ≠ 0) (b2 : b.toInt ≥ 0) (b3 : b.toInt > 2) : xEv L xs (d + 1) 133 0 [.ref 0, .int a, .int b] [] (124, I, J, R) (some (.int (-2))) (124, I, J, R) := by
  refine ev_go 1 (pc1 := 1) (lv1 := [.ref 0, .int a, .int b]) (st1 := [.ref 0]) (h1 := (124, I, J, R)) rfl ?_
  refine ev_gf (c := 0) (t := 3) (X := R 0 8) rfl rfl (fun _ => rfl) rfl r_R_0_8 ?_
  refine ev_go 1 (pc1 := 5) (lv1 := [.ref 0, .int a, .int b]) (st1 := [.int a, .ref 3]) (h1 := (124, I, J, R)) rfl ?_
  refine ev_call (v1 := (some (.int c))) (h1 := (124, I, J, R)) rfl rfl c1 ?_
  refine ev_br (b1 := false) rfl rfl (xcd_neq (x := c) (y := 0) (by rw [show ((0 : Int32)).toInt = 0 from by decide]; first | exact b1 | omega)) ?_
  refine ev_go 1 (pc1 := 12) (lv1 := [.ref 0, .int a, .int b]) (st1 := [.int b]) (h1 := (124, I, J, R)) rfl ?_
  refine ev_br (b1 := false) rfl rfl (xcd_nlt (x := b) (y := 0) (by rw [show ((0 : Int32)).toInt = 0 from by decide]; first | exact b2 | omega)) ?_
  refine ev_go 2 (pc1 := 17) (lv1 := [.ref 0, .int a, .int b]) (st1 := [.int 2, .int b]) (h1 := (124, I, J, R)) rfl ?_
  refine ev_br (b1 := false) rfl rfl (xcd_nle (x := b) (y := 2) (by rw [show ((2 : Int32)).toInt = 2 from by decide]; first | exact b3 | omega)) ?_
  refine ev_go 1 (pc1 := 22) (lv1 := [.ref 0, .int a, .int b]) (st1 := [.int (-2)]) (h1 := (124, I, J, R)) rfl ?_
  exact ev_ret rfl rfl
set_option maxRecDepth 20000 in
theorem uq_o_3 {L : Nat} {xs : Nat → Int32} {d : Nat} {I : Nat → Nat → Int32} {J : Nat → Nat → Int64} {R : Nat → Nat → Nat} {a b c : Int32} (hG : aGd R) (r_R_0_8 : R 0 8 = 4) (c1 : xEv L xs d 59 0 [.ref 3, .int a] [] (124, I, J, R) (some (.int c)) (124, I, J, R)) (b1 : c.toInt ≠ 0) (b2 : b.toInt ≥ 0) (b3 : b.toInt ≤ 2) (b4 : (I 66 4).toInt = 0) : xEv L xs (d + 1) 133 0 [.ref 0, .int a, .int b] [] (124, I, J, R) (some (.int (-1))) (124, I, J, R) := by
  refine ev_go 1 (pc1 := 1) (lv1 := [.ref 0, .int a, .int b]) (st1 := [.ref 0]) (h1 := (124, I, J, R)) rfl ?_
  refine ev_gf (c := 0) (t := 3) (X := R 0 8) rfl rfl (fun _ => rfl) rfl r_R_0_8 ?_
  refine ev_go 1 (pc1 := 5) (lv1 := [.ref 0, .int a, .int b]) (st1 := [.int a, .ref 3]) (h1 := (124, I, J, R)) rfl ?_
  refine ev_call (v1 := (some (.int c))) (h1 := (124, I, J, R)) rfl rfl c1 ?_
  refine ev_br (b1 := false) rfl rfl (xcd_neq (x := c) (y := 0) (by rw [show ((0 : Int32)).toInt = 0 from by decide]; first | exact b1 | omega)) ?_
  refine ev_go 1 (pc1 := 12) (lv1 := [.ref 0, .int a, .int b]) (st1 := [.int b]) (h1 := (124, I, J, R)) rfl ?_
  refine ev_br (b1 := false) rfl rfl (xcd_nlt (x := b) (y := 0) (by rw [show ((0 : Int32)).toInt = 0 from by decide]; first | exact b2 | omega)) ?_
  refine ev_go 2 (pc1 := 17) (lv1 := [.ref 0, .int a, .int b]) (st1 := [.int 2, .int b]) (h1 := (124, I, J, R)) rfl ?_
  refine ev_br (b1 := true) rfl rfl (xcd_le (x := b) (y := 2) (by rw [show ((2 : Int32)).toInt = 2 from by decide]; first | exact b3 | omega)) ?_
  refine ev_go 1 (pc1 := 24) (lv1 := [.ref 0, .int a, .int b]) (st1 := [.ref 0]) (h1 := (124, I, J, R)) rfl ?_
  refine ev_gf (c := 0) (t := 63) (X := R 0 7) rfl rfl (fun _ => rfl) rfl (hG 0 7 63 rfl rfl) ?_
  refine ev_gf (c := 63) (t := 66) (X := R 63 3) rfl rfl (fun _ => rfl) rfl (hG 63 3 66 rfl rfl) ?_
  refine ev_go 1 (pc1 := 33) (lv1 := [.ref 0, .int a, .int b]) (st1 := [.int (I 66 4)]) (h1 := (124, I, J, R)) rfl ?_
  refine ev_br (b1 := false) rfl rfl (xcd_nne (x := (I 66 4)) (y := 0) (by rw [show ((0 : Int32)).toInt = 0 from by decide]; first | exact b4 | omega)) ?_
  refine ev_go 1 (pc1 := 37) (lv1 := [.ref 0, .int a, .int b]) (st1 := [.int (-1)]) (h1 := (124, I, J, R)) rfl ?_
  exact ev_ret rfl rfl
set_option maxRecDepth 20000 in
theorem uq_0_3 {L : Nat} {xs : Nat → Int32} {d : Nat} {I : Nat → Nat → Int32} {J : Nat → Nat → Int64} {R : Nat → Nat → Nat} {a b c w : Int32} (hG : aGd R) (r_R_0_8 : R 0 8 = 4) (c1 : xEv L xs d 59 0 [.ref 3, .int a] [] (124, I, J, R) (some (.int c)) (124, I, J, R)) (b1 : c.toInt ≠ 0) (b2 : b.toInt ≥ 0) (b3 : b.toInt ≤ 2) (b4 : (I 66 4).toInt ≠ 0) (b5 : b.toInt = 0) (c2 : xEv L xs d 39 0 [.ref 67, .int a] [] (124, I, J, R) (some (.int w)) (124, I, J, R)) : xEv L xs (d + 1) 133 0 [.ref 0, .int a, .int b] [] (124, I, J, R) (some (.int w)) (124, I, J, R) := by
  refine ev_go 1 (pc1 := 1) (lv1 := [.ref 0, .int a, .int b]) (st1 := [.ref 0]) (h1 := (124, I, J, R)) rfl ?_
  refine ev_gf (c := 0) (t := 3) (X := R 0 8) rfl rfl (fun _ => rfl) rfl r_R_0_8 ?_
  refine ev_go 1 (pc1 := 5) (lv1 := [.ref 0, .int a, .int b]) (st1 := [.int a, .ref 3]) (h1 := (124, I, J, R)) rfl ?_
  refine ev_call (v1 := (some (.int c))) (h1 := (124, I, J, R)) rfl rfl c1 ?_
  refine ev_br (b1 := false) rfl rfl (xcd_neq (x := c) (y := 0) (by rw [show ((0 : Int32)).toInt = 0 from by decide]; first | exact b1 | omega)) ?_
  refine ev_go 1 (pc1 := 12) (lv1 := [.ref 0, .int a, .int b]) (st1 := [.int b]) (h1 := (124, I, J, R)) rfl ?_
  refine ev_br (b1 := false) rfl rfl (xcd_nlt (x := b) (y := 0) (by rw [show ((0 : Int32)).toInt = 0 from by decide]; first | exact b2 | omega)) ?_
  refine ev_go 2 (pc1 := 17) (lv1 := [.ref 0, .int a, .int b]) (st1 := [.int 2, .int b]) (h1 := (124, I, J, R)) rfl ?_
  refine ev_br (b1 := true) rfl rfl (xcd_le (x := b) (y := 2) (by rw [show ((2 : Int32)).toInt = 2 from by decide]; first | exact b3 | omega)) ?_
  refine ev_go 1 (pc1 := 24) (lv1 := [.ref 0, .int a, .int b]) (st1 := [.ref 0]) (h1 := (124, I, J, R)) rfl ?_
  refine ev_gf (c := 0) (t := 63) (X := R 0 7) rfl rfl (fun _ => rfl) rfl (hG 0 7 63 rfl rfl) ?_
  refine ev_gf (c := 63) (t := 66) (X := R 63 3) rfl rfl (fun _ => rfl) rfl (hG 63 3 66 rfl rfl) ?_
  refine ev_go 1 (pc1 := 33) (lv1 := [.ref 0, .int a, .int b]) (st1 := [.int (I 66 4)]) (h1 := (124, I, J, R)) rfl ?_
  refine ev_br (b1 := true) rfl rfl (xcd_ne (x := (I 66 4)) (y := 0) (by rw [show ((0 : Int32)).toInt = 0 from by decide]; first | exact b4 | omega)) ?_
  refine ev_go 1 (pc1 := 39) (lv1 := [.ref 0, .int a, .int b]) (st1 := [.int b]) (h1 := (124, I, J, R)) rfl ?_
  refine ev_lk1 (x := b) (z := 0) (t := 64) rfl rfl b5 rfl rfl ?_
  refine ev_go 1 (pc1 := 65) (lv1 := [.ref 0, .int a, .int b]) (st1 := [.ref 0]) (h1 := (124, I, J, R)) rfl ?_
  refine ev_gf (c := 0) (t := 63) (X := R 0 7) rfl rfl (fun _ => rfl) rfl (hG 0 7 63 rfl rfl) ?_
  refine ev_gf (c := 63) (t := 66) (X := R 63 3) rfl rfl (fun _ => rfl) rfl (hG 63 3 66 rfl rfl) ?_
  refine ev_gf (c := 66) (t := 67) (X := R 66 0) rfl rfl (fun _ => rfl) rfl (hG 66 0 67 rfl rfl) ?_
  refine ev_go 1 (pc1 := 75) (lv1 := [.ref 0, .int a, .int b]) (st1 := [.int a, .ref 67]) (h1 := (124, I, J, R)) rfl ?_
  refine ev_call (v1 := (some (.int w))) (h1 := (124, I, J, R)) rfl rfl c2 ?_
  exact ev_ret rfl rfl
set_option maxRecDepth 20000 in
theorem uq_1_3 {L : Nat} {xs : Nat → Int32} {d : Nat} {I : Nat → Nat → Int32} {J : Nat → Nat → Int64} {R : Nat → Nat → Nat} {a b c w : Int32} (hG : aGd R) (r_R_0_8 : R 0 8 = 4) (c1 : xEv L xs d 59 0 [.ref 3, .int a] [] (124, I, J, R) (some (.int c)) (124, I, J, R)) (b1 : c.toInt ≠ 0) (b2 : b.toInt ≥ 0) (b3 : b.toInt ≤ 2) (b4 : (I 66 4).toInt ≠ 0) (b5 : b.toInt = 1) (c2 : xEv L xs d 39 0 [.ref 68, .int a] [] (124, I, J, R) (some (.int w)) (124, I, J, R)) : xEv L xs (d + 1) 133 0 [.ref 0, .int a, .int b] [] (124, I, J, R) (some (.int w)) (124, I, J, R) := by
  refine ev_go 1 (pc1 := 1) (lv1 := [.ref 0, .int a, .int b]) (st1 := [.ref 0]) (h1 := (124, I, J, R)) rfl ?_
  refine ev_gf (c := 0) (t := 3) (X := R 0 8) rfl rfl (fun _ => rfl) rfl r_R_0_8 ?_
  refine ev_go 1 (pc1 := 5) (lv1 := [.ref 0, .int a, .int b]) (st1 := [.int a, .ref 3]) (h1 := (124, I, J, R)) rfl ?_
  refine ev_call (v1 := (some (.int c))) (h1 := (124, I, J, R)) rfl rfl c1 ?_
  refine ev_br (b1 := false) rfl rfl (xcd_neq (x := c) (y := 0) (by rw [show ((0 : Int32)).toInt = 0 from by decide]; first | exact b1 | omega)) ?_
  refine ev_go 1 (pc1 := 12) (lv1 := [.ref 0, .int a, .int b]) (st1 := [.int b]) (h1 := (124, I, J, R)) rfl ?_
  refine ev_br (b1 := false) rfl rfl (xcd_nlt (x := b) (y := 0) (by rw [show ((0 : Int32)).toInt = 0 from by decide]; first | exact b2 | omega)) ?_
  refine ev_go 2 (pc1 := 17) (lv1 := [.ref 0, .int a, .int b]) (st1 := [.int 2, .int b]) (h1 := (124, I, J, R)) rfl ?_
  refine ev_br (b1 := true) rfl rfl (xcd_le (x := b) (y := 2) (by rw [show ((2 : Int32)).toInt = 2 from by decide]; first | exact b3 | omega)) ?_
  refine ev_go 1 (pc1 := 24) (lv1 := [.ref 0, .int a, .int b]) (st1 := [.ref 0]) (h1 := (124, I, J, R)) rfl ?_
  refine ev_gf (c := 0) (t := 63) (X := R 0 7) rfl rfl (fun _ => rfl) rfl (hG 0 7 63 rfl rfl) ?_
  refine ev_gf (c := 63) (t := 66) (X := R 63 3) rfl rfl (fun _ => rfl) rfl (hG 63 3 66 rfl rfl) ?_
  refine ev_go 1 (pc1 := 33) (lv1 := [.ref 0, .int a, .int b]) (st1 := [.int (I 66 4)]) (h1 := (124, I, J, R)) rfl ?_
  refine ev_br (b1 := true) rfl rfl (xcd_ne (x := (I 66 4)) (y := 0) (by rw [show ((0 : Int32)).toInt = 0 from by decide]; first | exact b4 | omega)) ?_
  refine ev_go 1 (pc1 := 39) (lv1 := [.ref 0, .int a, .int b]) (st1 := [.int b]) (h1 := (124, I, J, R)) rfl ?_
  refine ev_lk1 (x := b) (z := 1) (t := 79) rfl rfl b5 rfl rfl ?_
  refine ev_go 1 (pc1 := 80) (lv1 := [.ref 0, .int a, .int b]) (st1 := [.ref 0]) (h1 := (124, I, J, R)) rfl ?_
  refine ev_gf (c := 0) (t := 63) (X := R 0 7) rfl rfl (fun _ => rfl) rfl (hG 0 7 63 rfl rfl) ?_
  refine ev_gf (c := 63) (t := 66) (X := R 63 3) rfl rfl (fun _ => rfl) rfl (hG 63 3 66 rfl rfl) ?_
  refine ev_gf (c := 66) (t := 68) (X := R 66 1) rfl rfl (fun _ => rfl) rfl (hG 66 1 68 rfl rfl) ?_
  refine ev_go 1 (pc1 := 90) (lv1 := [.ref 0, .int a, .int b]) (st1 := [.int a, .ref 68]) (h1 := (124, I, J, R)) rfl ?_
  refine ev_call (v1 := (some (.int w))) (h1 := (124, I, J, R)) rfl rfl c2 ?_
  exact ev_ret rfl rfl
set_option maxRecDepth 20000 in
theorem uq_2_3 {L : Nat} {xs : Nat → Int32} {d : Nat} {I : Nat → Nat → Int32} {J : Nat → Nat → Int64} {R : Nat → Nat → Nat} {a b c w : Int32} (hG : aGd R) (r_R_0_8 : R 0 8 = 4) (c1 : xEv L xs d 59 0 [.ref 3, .int a] [] (124, I, J, R) (some (.int c)) (124, I, J, R)) (b1 : c.toInt ≠ 0) (b2 : b.toInt ≥ 0) (b3 : b.toInt ≤ 2) (b4 : (I 66 4).toInt ≠ 0) (b5 : b.toInt ≠ 0 ∧ b.toInt ≠ 1) (c2 : xEv L xs d 39 0 [.ref 69, .int a] [] (124, I, J, R) (some (.int w)) (124, I, J, R)) : xEv L xs (d + 1) 133 0 [.ref 0, .int a, .int b] [] (124, I, J, R) (some (.int w)) (124, I, J, R) := by
  refine ev_go 1 (pc1 := 1) (lv1 := [.ref 0, .int a, .int b]) (st1 := [.ref 0]) (h1 := (124, I, J, R)) rfl ?_
  refine ev_gf (c := 0) (t := 3) (X := R 0 8) rfl rfl (fun _ => rfl) rfl r_R_0_8 ?_
  refine ev_go 1 (pc1 := 5) (lv1 := [.ref 0, .int a, .int b]) (st1 := [.int a, .ref 3]) (h1 := (124, I, J, R)) rfl ?_
  refine ev_call (v1 := (some (.int c))) (h1 := (124, I, J, R)) rfl rfl c1 ?_
  refine ev_br (b1 := false) rfl rfl (xcd_neq (x := c) (y := 0) (by rw [show ((0 : Int32)).toInt = 0 from by decide]; first | exact b1 | omega)) ?_
  refine ev_go 1 (pc1 := 12) (lv1 := [.ref 0, .int a, .int b]) (st1 := [.int b]) (h1 := (124, I, J, R)) rfl ?_
  refine ev_br (b1 := false) rfl rfl (xcd_nlt (x := b) (y := 0) (by rw [show ((0 : Int32)).toInt = 0 from by decide]; first | exact b2 | omega)) ?_
  refine ev_go 2 (pc1 := 17) (lv1 := [.ref 0, .int a, .int b]) (st1 := [.int 2, .int b]) (h1 := (124, I, J, R)) rfl ?_
  refine ev_br (b1 := true) rfl rfl (xcd_le (x := b) (y := 2) (by rw [show ((2 : Int32)).toInt = 2 from by decide]; first | exact b3 | omega)) ?_
  refine ev_go 1 (pc1 := 24) (lv1 := [.ref 0, .int a, .int b]) (st1 := [.ref 0]) (h1 := (124, I, J, R)) rfl ?_
  refine ev_gf (c := 0) (t := 63) (X := R 0 7) rfl rfl (fun _ => rfl) rfl (hG 0 7 63 rfl rfl) ?_
  refine ev_gf (c := 63) (t := 66) (X := R 63 3) rfl rfl (fun _ => rfl) rfl (hG 63 3 66 rfl rfl) ?_
  refine ev_go 1 (pc1 := 33) (lv1 := [.ref 0, .int a, .int b]) (st1 := [.int (I 66 4)]) (h1 := (124, I, J, R)) rfl ?_
  refine ev_br (b1 := true) rfl rfl (xcd_ne (x := (I 66 4)) (y := 0) (by rw [show ((0 : Int32)).toInt = 0 from by decide]; first | exact b4 | omega)) ?_
  refine ev_go 1 (pc1 := 39) (lv1 := [.ref 0, .int a, .int b]) (st1 := [.int b]) (h1 := (124, I, J, R)) rfl ?_
  refine ev_lkp (x := b) (t := 94) rfl rfl (fun p hp => by have hp' : p ∈ [((0 : Int), (25 : Int)), (1, 40)] := hp; simp only [List.mem_cons, List.not_mem_nil, or_false] at hp'; rcases hp' with rfl | rfl; exact b5.1; exact b5.2) rfl ?_
  refine ev_go 1 (pc1 := 95) (lv1 := [.ref 0, .int a, .int b]) (st1 := [.ref 0]) (h1 := (124, I, J, R)) rfl ?_
  refine ev_gf (c := 0) (t := 63) (X := R 0 7) rfl rfl (fun _ => rfl) rfl (hG 0 7 63 rfl rfl) ?_
  refine ev_gf (c := 63) (t := 66) (X := R 63 3) rfl rfl (fun _ => rfl) rfl (hG 63 3 66 rfl rfl) ?_
  refine ev_gf (c := 66) (t := 69) (X := R 66 2) rfl rfl (fun _ => rfl) rfl (hG 66 2 69 rfl rfl) ?_
  refine ev_go 1 (pc1 := 105) (lv1 := [.ref 0, .int a, .int b]) (st1 := [.int a, .ref 69]) (h1 := (124, I, J, R)) rfl ?_
  refine ev_call (v1 := (some (.int w))) (h1 := (124, I, J, R)) rfl rfl c2 ?_
  exact ev_ret rfl rfl
set_option maxRecDepth 20000 in
theorem uj_x_3 {L : Nat} {xs : Nat → Int32} {d : Nat} {I : Nat → Nat → Int32} {J : Nat → Nat → Int64} {R : Nat → Nat → Nat} {a b c : Int32} (hG : aGd R) (r_R_0_8 : R 0 8 = 4) (c1 : xEv L xs d 64 0 [.ref 3, .int a] [] (124, I, J, R) (some (.int c)) (124, I, J, R)) (b1 : c.toInt = 0) : xEv L xs (d + 1) 134 0 [.ref 0, .int a, .int b] [] (124, I, J, R) (some (.int (-2))) (124, I, J, R) := by
  refine ev_go 1 (pc1 := 1) (lv1 := [.ref 0, .int a, .int b]) (st1 := [.ref 0]) (h1 := (124, I, J, R)) rfl ?_
  refine ev_gf (c := 0) (t := 3) (X := R 0 8) rfl rfl (fun _ => rfl) rfl r_R_0_8 ?_
  refine ev_go 1 (pc1 := 5) (lv1 := [.ref 0, .int a, .int b]) (st1 := [.int a, .ref 3]) (h1 := (124, I, J, R)) rfl ?_
  refine ev_call (v1 := (some (.int c))) (h1 := (124, I, J, R)) rfl rfl c1 ?_
  refine ev_br (b1 := true) rfl rfl (xcd_eq (x := c) (y := 0) (by rw [show ((0 : Int32)).toInt = 0 from by decide]; first | exact b1 | omega)) ?_
  refine ev_go 1 (pc1 := 22) (lv1 := [.ref 0, .int a, .int b]) (st1 := [.int (-2)]) (h1 := (124, I, J, R)) rfl ?_
  exact ev_ret rfl rfl
set_option maxRecDepth 20000 in
theorem uj_l_3 {L : Nat} {xs : Nat → Int32} {d : Nat} {I : Nat → Nat → Int32} {J : Nat → Nat → Int64} {R : Nat → Nat → Nat} {a b c : Int32} (hG : aGd R) (r_R_0_8 : R 0 8 = 4) (c1 : xEv L xs d 64 0 [.ref 3, .int a] [] (124, I, J, R) (some (.int c)) (124, I, J, R)) (b1 : c.toInt ≠ 0) (b2 : b.toInt < 0) : xEv L xs (d + 1) 134 0 [.ref 0, .int a, .int b] [] (124, I, J, R) (some (.int (-2))) (124, I, J, R) := by
  refine ev_go 1 (pc1 := 1) (lv1 := [.ref 0, .int a, .int b]) (st1 := [.ref 0]) (h1 := (124, I, J, R)) rfl ?_
  refine ev_gf (c := 0) (t := 3) (X := R 0 8) rfl rfl (fun _ => rfl) rfl r_R_0_8 ?_
  refine ev_go 1 (pc1 := 5) (lv1 := [.ref 0, .int a, .int b]) (st1 := [.int a, .ref 3]) (h1 := (124, I, J, R)) rfl ?_
  refine ev_call (v1 := (some (.int c))) (h1 := (124, I, J, R)) rfl rfl c1 ?_
  refine ev_br (b1 := false) rfl rfl (xcd_neq (x := c) (y := 0) (by rw [show ((0 : Int32)).toInt = 0 from by decide]; first | exact b1 | omega)) ?_
  refine ev_go 1 (pc1 := 12) (lv1 := [.ref 0, .int a, .int b]) (st1 := [.int b]) (h1 := (124, I, J, R)) rfl ?_
  refine ev_br (b1 := true) rfl rfl (xcd_lt (x := b) (y := 0) (by rw [show ((0 : Int32)).toInt = 0 from by decide]; first | exact b2 | omega)) ?_
  refine ev_go 1 (pc1 := 22) (lv1 := [.ref 0, .int a, .int b]) (st1 := [.int (-2)]) (h1 := (124, I, J, R)) rfl ?_
  exact ev_ret rfl rfl
set_option maxRecDepth 20000 in
theorem uj_h_3 {L : Nat} {xs : Nat → Int32} {d : Nat} {I : Nat → Nat → Int32} {J : Nat → Nat → Int64} {R : Nat → Nat → Nat} {a b c : Int32} (hG : aGd R) (r_R_0_8 : R 0 8 = 4) (c1 : xEv L xs d 64 0 [.ref 3, .int a] [] (124, I, J, R) (some (.int c)) (124, I, J, R)) (b1 : c.toInt ≠ 0) (b2 : b.toInt ≥ 0) (b3 : b.toInt > 1) : xEv L xs (d + 1) 134 0 [.ref 0, .int a, .int b] [] (124, I, J, R) (some (.int (-2))) (124, I, J, R) := by
  refine ev_go 1 (pc1 := 1) (lv1 := [.ref 0, .int a, .int b]) (st1 := [.ref 0]) (h1 := (124, I, J, R)) rfl ?_
  refine ev_gf (c := 0) (t := 3) (X := R 0 8) rfl rfl (fun _ => rfl) rfl r_R_0_8 ?_
  refine ev_go 1 (pc1 := 5) (lv1 := [.ref 0, .int a, .int b]) (st1 := [.int a, .ref 3]) (h1 := (124, I, J, R)) rfl ?_
  refine ev_call (v1 := (some (.int c))) (h1 := (124, I, J, R)) rfl rfl c1 ?_
  refine ev_br (b1 := false) rfl rfl (xcd_neq (x := c) (y := 0) (by rw [show ((0 : Int32)).toInt = 0 from by decide]; first | exact b1 | omega)) ?_
  refine ev_go 1 (pc1 := 12) (lv1 := [.ref 0, .int a, .int b]) (st1 := [.int b]) (h1 := (124, I, J, R)) rfl ?_
  refine ev_br (b1 := false) rfl rfl (xcd_nlt (x := b) (y := 0) (by rw [show ((0 : Int32)).toInt = 0 from by decide]; first | exact b2 | omega)) ?_
  refine ev_go 2 (pc1 := 17) (lv1 := [.ref 0, .int a, .int b]) (st1 := [.int 1, .int b]) (h1 := (124, I, J, R)) rfl ?_
  refine ev_br (b1 := false) rfl rfl (xcd_nle (x := b) (y := 1) (by rw [show ((1 : Int32)).toInt = 1 from by decide]; first | exact b3 | omega)) ?_
  refine ev_go 1 (pc1 := 22) (lv1 := [.ref 0, .int a, .int b]) (st1 := [.int (-2)]) (h1 := (124, I, J, R)) rfl ?_
  exact ev_ret rfl rfl
set_option maxRecDepth 20000 in
theorem uj_o_3 {L : Nat} {xs : Nat → Int32} {d : Nat} {I : Nat → Nat → Int32} {J : Nat → Nat → Int64} {R : Nat → Nat → Nat} {a b c : Int32} (hG : aGd R) (r_R_0_8 : R 0 8 = 4) (c1 : xEv L xs d 64 0 [.ref 3, .int a] [] (124, I, J, R) (some (.int c)) (124, I, J, R)) (b1 : c.toInt ≠ 0) (b2 : b.toInt ≥ 0) (b3 : b.toInt ≤ 1) (b4 : (I 66 4).toInt = 0) : xEv L xs (d + 1) 134 0 [.ref 0, .int a, .int b] [] (124, I, J, R) (some (.int (-1))) (124, I, J, R) := by
  refine ev_go 1 (pc1 := 1) (lv1 := [.ref 0, .int a, .int b]) (st1 := [.ref 0]) (h1 := (124, I, J, R)) rfl ?_
  refine ev_gf (c := 0) (t := 3) (X := R 0 8) rfl rfl (fun _ => rfl) rfl r_R_0_8 ?_
  refine ev_go 1 (pc1 := 5) (lv1 := [.ref 0, .int a, .int b]) (st1 := [.int a, .ref 3]) (h1 := (124, I, J, R)) rfl ?_
  refine ev_call (v1 := (some (.int c))) (h1 := (124, I, J, R)) rfl rfl c1 ?_
  refine ev_br (b1 := false) rfl rfl (xcd_neq (x := c) (y := 0) (by rw [show ((0 : Int32)).toInt = 0 from by decide]; first | exact b1 | omega)) ?_
  refine ev_go 1 (pc1 := 12) (lv1 := [.ref 0, .int a, .int b]) (st1 := [.int b]) (h1 := (124, I, J, R)) rfl ?_
  refine ev_br (b1 := false) rfl rfl (xcd_nlt (x := b) (y := 0) (by rw [show ((0 : Int32)).toInt = 0 from by decide]; first | exact b2 | omega)) ?_
  refine ev_go 2 (pc1 := 17) (lv1 := [.ref 0, .int a, .int b]) (st1 := [.int 1, .int b]) (h1 := (124, I, J, R)) rfl ?_
  refine ev_br (b1 := true) rfl rfl (xcd_le (x := b) (y := 1) (by rw [show ((1 : Int32)).toInt = 1 from by decide]; first | exact b3 | omega)) ?_
  refine ev_go 1 (pc1 := 24) (lv1 := [.ref 0, .int a, .int b]) (st1 := [.ref 0]) (h1 := (124, I, J, R)) rfl ?_
  refine ev_gf (c := 0) (t := 63) (X := R 0 7) rfl rfl (fun _ => rfl) rfl (hG 0 7 63 rfl rfl) ?_
  refine ev_gf (c := 63) (t := 66) (X := R 63 3) rfl rfl (fun _ => rfl) rfl (hG 63 3 66 rfl rfl) ?_
  refine ev_go 1 (pc1 := 33) (lv1 := [.ref 0, .int a, .int b]) (st1 := [.int (I 66 4)]) (h1 := (124, I, J, R)) rfl ?_
  refine ev_br (b1 := false) rfl rfl (xcd_nne (x := (I 66 4)) (y := 0) (by rw [show ((0 : Int32)).toInt = 0 from by decide]; first | exact b4 | omega)) ?_
  refine ev_go 1 (pc1 := 37) (lv1 := [.ref 0, .int a, .int b]) (st1 := [.int (-1)]) (h1 := (124, I, J, R)) rfl ?_
  exact ev_ret rfl rfl
set_option maxRecDepth 20000 in
theorem uj_0_3 {L : Nat} {xs : Nat → Int32} {d : Nat} {I : Nat → Nat → Int32} {J : Nat → Nat → Int64} {R : Nat → Nat → Nat} {a b c x w : Int32} (hG : aGd R) (r_R_0_8 : R 0 8 = 4) (c1 : xEv L xs d 64 0 [.ref 3, .int a] [] (124, I, J, R) (some (.int c)) (124, I, J, R)) (b1 : c.toInt ≠ 0) (b2 : b.toInt ≥ 0) (b3 : b.toInt ≤ 1) (b4 : (I 66 4).toInt ≠ 0) (b5 : b.toInt = 0) (c2 : xEv L xs d 125 0 [.ref 66, .int a, xmk, xmk] [] (124, I, J, R) (some (.int x)) (124, I, J, R)) (c3 : xEv L xs d 90 0 [.int x] [] (124, I, J, R) (some (.int w)) (124, I, J, R)) : xEv L xs (d + 1) 134 0 [.ref 0, .int a, .int b] [] (124, I, J, R) (some (.int w)) (124, I, J, R) := by
  refine ev_go 1 (pc1 := 1) (lv1 := [.ref 0, .int a, .int b]) (st1 := [.ref 0]) (h1 := (124, I, J, R)) rfl ?_
  refine ev_gf (c := 0) (t := 3) (X := R 0 8) rfl rfl (fun _ => rfl) rfl r_R_0_8 ?_
  refine ev_go 1 (pc1 := 5) (lv1 := [.ref 0, .int a, .int b]) (st1 := [.int a, .ref 3]) (h1 := (124, I, J, R)) rfl ?_
  refine ev_call (v1 := (some (.int c))) (h1 := (124, I, J, R)) rfl rfl c1 ?_
  refine ev_br (b1 := false) rfl rfl (xcd_neq (x := c) (y := 0) (by rw [show ((0 : Int32)).toInt = 0 from by decide]; first | exact b1 | omega)) ?_
  refine ev_go 1 (pc1 := 12) (lv1 := [.ref 0, .int a, .int b]) (st1 := [.int b]) (h1 := (124, I, J, R)) rfl ?_
  refine ev_br (b1 := false) rfl rfl (xcd_nlt (x := b) (y := 0) (by rw [show ((0 : Int32)).toInt = 0 from by decide]; first | exact b2 | omega)) ?_
  refine ev_go 2 (pc1 := 17) (lv1 := [.ref 0, .int a, .int b]) (st1 := [.int 1, .int b]) (h1 := (124, I, J, R)) rfl ?_
  refine ev_br (b1 := true) rfl rfl (xcd_le (x := b) (y := 1) (by rw [show ((1 : Int32)).toInt = 1 from by decide]; first | exact b3 | omega)) ?_
  refine ev_go 1 (pc1 := 24) (lv1 := [.ref 0, .int a, .int b]) (st1 := [.ref 0]) (h1 := (124, I, J, R)) rfl ?_
  refine ev_gf (c := 0) (t := 63) (X := R 0 7) rfl rfl (fun _ => rfl) rfl (hG 0 7 63 rfl rfl) ?_
  refine ev_gf (c := 63) (t := 66) (X := R 63 3) rfl rfl (fun _ => rfl) rfl (hG 63 3 66 rfl rfl) ?_
  refine ev_go 1 (pc1 := 33) (lv1 := [.ref 0, .int a, .int b]) (st1 := [.int (I 66 4)]) (h1 := (124, I, J, R)) rfl ?_
  refine ev_br (b1 := true) rfl rfl (xcd_ne (x := (I 66 4)) (y := 0) (by rw [show ((0 : Int32)).toInt = 0 from by decide]; first | exact b4 | omega)) ?_
  refine ev_go 1 (pc1 := 39) (lv1 := [.ref 0, .int a, .int b]) (st1 := [.int b]) (h1 := (124, I, J, R)) rfl ?_
  refine ev_br (b1 := false) rfl rfl (xcd_nne (x := b) (y := 0) (by rw [show ((0 : Int32)).toInt = 0 from by decide]; first | exact b5 | omega)) ?_
  refine ev_go 1 (pc1 := 43) (lv1 := [.ref 0, .int a, .int b]) (st1 := [.ref 0]) (h1 := (124, I, J, R)) rfl ?_
  refine ev_gf (c := 0) (t := 63) (X := R 0 7) rfl rfl (fun _ => rfl) rfl (hG 0 7 63 rfl rfl) ?_
  refine ev_gf (c := 63) (t := 66) (X := R 63 3) rfl rfl (fun _ => rfl) rfl (hG 63 3 66 rfl rfl) ?_
  refine ev_go 1 (pc1 := 50) (lv1 := [.ref 0, .int a, .int b]) (st1 := [.int a, .ref 66]) (h1 := (124, I, J, R)) rfl ?_
  refine ev_call (v1 := (some (.int x))) (h1 := (124, I, J, R)) rfl rfl c2 ?_
  refine ev_call (v1 := (some (.int w))) (h1 := (124, I, J, R)) rfl rfl c3 ?_
  refine ev_go 1 (pc1 := 73) (lv1 := [.ref 0, .int a, .int b]) (st1 := [.int w]) (h1 := (124, I, J, R)) rfl ?_
  exact ev_ret rfl rfl
set_option maxRecDepth 20000 in
theorem uj_1_3 {L : Nat} {xs : Nat → Int32} {d : Nat} {I : Nat → Nat → Int32} {J : Nat → Nat → Int64} {R : Nat → Nat → Nat} {a b c : Int32} (hG : aGd R) (r_R_0_8 : R 0 8 = 4) (c1 : xEv L xs d 64 0 [.ref 3, .int a] [] (124, I, J, R) (some (.int c)) (124, I, J, R)) (b1 : c.toInt ≠ 0) (b2 : b.toInt ≥ 0) (b3 : b.toInt ≤ 1) (b4 : (I 66 4).toInt ≠ 0) (b5 : b.toInt ≠ 0) : xEv L xs (d + 1) 134 0 [.ref 0, .int a, .int b] [] (124, I, J, R) (some (.int (((I 66 6) >>> (a &&& 31)) &&& 1))) (124, I, J, R) := by
  refine ev_go 1 (pc1 := 1) (lv1 := [.ref 0, .int a, .int b]) (st1 := [.ref 0]) (h1 := (124, I, J, R)) rfl ?_
  refine ev_gf (c := 0) (t := 3) (X := R 0 8) rfl rfl (fun _ => rfl) rfl r_R_0_8 ?_
  refine ev_go 1 (pc1 := 5) (lv1 := [.ref 0, .int a, .int b]) (st1 := [.int a, .ref 3]) (h1 := (124, I, J, R)) rfl ?_
  refine ev_call (v1 := (some (.int c))) (h1 := (124, I, J, R)) rfl rfl c1 ?_
  refine ev_br (b1 := false) rfl rfl (xcd_neq (x := c) (y := 0) (by rw [show ((0 : Int32)).toInt = 0 from by decide]; first | exact b1 | omega)) ?_
  refine ev_go 1 (pc1 := 12) (lv1 := [.ref 0, .int a, .int b]) (st1 := [.int b]) (h1 := (124, I, J, R)) rfl ?_
  refine ev_br (b1 := false) rfl rfl (xcd_nlt (x := b) (y := 0) (by rw [show ((0 : Int32)).toInt = 0 from by decide]; first | exact b2 | omega)) ?_
  refine ev_go 2 (pc1 := 17) (lv1 := [.ref 0, .int a, .int b]) (st1 := [.int 1, .int b]) (h1 := (124, I, J, R)) rfl ?_
  refine ev_br (b1 := true) rfl rfl (xcd_le (x := b) (y := 1) (by rw [show ((1 : Int32)).toInt = 1 from by decide]; first | exact b3 | omega)) ?_
  refine ev_go 1 (pc1 := 24) (lv1 := [.ref 0, .int a, .int b]) (st1 := [.ref 0]) (h1 := (124, I, J, R)) rfl ?_
  refine ev_gf (c := 0) (t := 63) (X := R 0 7) rfl rfl (fun _ => rfl) rfl (hG 0 7 63 rfl rfl) ?_
  refine ev_gf (c := 63) (t := 66) (X := R 63 3) rfl rfl (fun _ => rfl) rfl (hG 63 3 66 rfl rfl) ?_
  refine ev_go 1 (pc1 := 33) (lv1 := [.ref 0, .int a, .int b]) (st1 := [.int (I 66 4)]) (h1 := (124, I, J, R)) rfl ?_
  refine ev_br (b1 := true) rfl rfl (xcd_ne (x := (I 66 4)) (y := 0) (by rw [show ((0 : Int32)).toInt = 0 from by decide]; first | exact b4 | omega)) ?_
  refine ev_go 1 (pc1 := 39) (lv1 := [.ref 0, .int a, .int b]) (st1 := [.int b]) (h1 := (124, I, J, R)) rfl ?_
  refine ev_br (b1 := true) rfl rfl (xcd_ne (x := b) (y := 0) (by rw [show ((0 : Int32)).toInt = 0 from by decide]; first | exact b5 | omega)) ?_
  refine ev_go 1 (pc1 := 60) (lv1 := [.ref 0, .int a, .int b]) (st1 := [.ref 0]) (h1 := (124, I, J, R)) rfl ?_
  refine ev_gf (c := 0) (t := 63) (X := R 0 7) rfl rfl (fun _ => rfl) rfl (hG 0 7 63 rfl rfl) ?_
  refine ev_gf (c := 63) (t := 66) (X := R 63 3) rfl rfl (fun _ => rfl) rfl (hG 63 3 66 rfl rfl) ?_
  refine ev_go 2 (pc1 := 70) (lv1 := [.ref 0, .int a, .int b]) (st1 := [.int a, .int (I 66 6)]) (h1 := (124, I, J, R)) rfl ?_
  refine ev_go 3 (pc1 := 73) (lv1 := [.ref 0, .int a, .int b]) (st1 := [.int (((I 66 6) >>> (a &&& 31)) &&& 1)]) (h1 := (124, I, J, R)) rfl ?_
  exact ev_ret rfl rfl
set_option maxRecDepth 20000 in
theorem uq_x_23 {L : Nat} {xs : Nat → Int32} {d : Nat} {I : Nat → Nat → Int32} {J : Nat → Nat → Int64} {R : Nat → Nat → Nat} {a b c : Int32} (hG : aGd R) (r_R_0_8 : R 0 8 = 24) (c1 : xEv L xs d 59 0 [.ref 23, .int a] [] (124, I, J, R) (some (.int c)) (124, I, J, R)) (b1 : c.toInt = 0) : xEv L xs (d + 1) 133 0 [.ref 0, .int a, .int b] [] (124, I, J, R) (some (.int (-2))) (124, I, J, R) := by
  refine ev_go 1 (pc1 := 1) (lv1 := [.ref 0, .int a, .int b]) (st1 := [.ref 0]) (h1 := (124, I, J, R)) rfl ?_
  refine ev_gf (c := 0) (t := 23) (X := R 0 8) rfl rfl (fun _ => rfl) rfl r_R_0_8 ?_
  refine ev_go 1 (pc1 := 5) (lv1 := [.ref 0, .int a, .int b]) (st1 := [.int a, .ref 23]) (h1 := (124, I, J, R)) rfl ?_
  refine ev_call (v1 := (some (.int c))) (h1 := (124, I, J, R)) rfl rfl c1 ?_
  refine ev_br (b1 := true) rfl rfl (xcd_eq (x := c) (y := 0) (by rw [show ((0 : Int32)).toInt = 0 from by decide]; first | exact b1 | omega)) ?_
  refine ev_go 1 (pc1 := 22) (lv1 := [.ref 0, .int a, .int b]) (st1 := [.int (-2)]) (h1 := (124, I, J, R)) rfl ?_
  exact ev_ret rfl rfl
set_option maxRecDepth 20000 in
theorem uq_l_23 {L : Nat} {xs : Nat → Int32} {d : Nat} {I : Nat → Nat → Int32} {J : Nat → Nat → Int64} {R : Nat → Nat → Nat} {a b c : Int32} (hG : aGd R) (r_R_0_8 : R 0 8 = 24) (c1 : xEv L xs d 59 0 [.ref 23, .int a] [] (124, I, J, R) (some (.int c)) (124, I, J, R)) (b1 : c.toInt ≠ 0) (b2 : b.toInt < 0) : xEv L xs (d + 1) 133 0 [.ref 0, .int a, .int b] [] (124, I, J, R) (some (.int (-2))) (124, I, J, R) := by
  refine ev_go 1 (pc1 := 1) (lv1 := [.ref 0, .int a, .int b]) (st1 := [.ref 0]) (h1 := (124, I, J, R)) rfl ?_
  refine ev_gf (c := 0) (t := 23) (X := R 0 8) rfl rfl (fun _ => rfl) rfl r_R_0_8 ?_
  refine ev_go 1 (pc1 := 5) (lv1 := [.ref 0, .int a, .int b]) (st1 := [.int a, .ref 23]) (h1 := (124, I, J, R)) rfl ?_
  refine ev_call (v1 := (some (.int c))) (h1 := (124, I, J, R)) rfl rfl c1 ?_
  refine ev_br (b1 := false) rfl rfl (xcd_neq (x := c) (y := 0) (by rw [show ((0 : Int32)).toInt = 0 from by decide]; first | exact b1 | omega)) ?_
  refine ev_go 1 (pc1 := 12) (lv1 := [.ref 0, .int a, .int b]) (st1 := [.int b]) (h1 := (124, I, J, R)) rfl ?_
  refine ev_br (b1 := true) rfl rfl (xcd_lt (x := b) (y := 0) (by rw [show ((0 : Int32)).toInt = 0 from by decide]; first | exact b2 | omega)) ?_
  refine ev_go 1 (pc1 := 22) (lv1 := [.ref 0, .int a, .int b]) (st1 := [.int (-2)]) (h1 := (124, I, J, R)) rfl ?_
  exact ev_ret rfl rfl
set_option maxRecDepth 20000 in
theorem uq_h_23 {L : Nat} {xs : Nat → Int32} {d : Nat} {I : Nat → Nat → Int32} {J : Nat → Nat → Int64} {R : Nat → Nat → Nat} {a b c : Int32} (hG : aGd R) (r_R_0_8 : R 0 8 = 24) (c1 : xEv L xs d 59 0 [.ref 23, .int a] [] (124, I, J, R) (some (.int c)) (124, I, J, R)) (b1 : c.toInt ≠ 0) (b2 : b.toInt ≥ 0) (b3 : b.toInt > 2) : xEv L xs (d + 1) 133 0 [.ref 0, .int a, .int b] [] (124, I, J, R) (some (.int (-2))) (124, I, J, R) := by
  refine ev_go 1 (pc1 := 1) (lv1 := [.ref 0, .int a, .int b]) (st1 := [.ref 0]) (h1 := (124, I, J, R)) rfl ?_
  refine ev_gf (c := 0) (t := 23) (X := R 0 8) rfl rfl (fun _ => rfl) rfl r_R_0_8 ?_
  refine ev_go 1 (pc1 := 5) (lv1 := [.ref 0, .int a, .int b]) (st1 := [.int a, .ref 23]) (h1 := (124, I, J, R)) rfl ?_
  refine ev_call (v1 := (some (.int c))) (h1 := (124, I, J, R)) rfl rfl c1 ?_
  refine ev_br (b1 := false) rfl rfl (xcd_neq (x := c) (y := 0) (by rw [show ((0 : Int32)).toInt = 0 from by decide]; first | exact b1 | omega)) ?_
  refine ev_go 1 (pc1 := 12) (lv1 := [.ref 0, .int a, .int b]) (st1 := [.int b]) (h1 := (124, I, J, R)) rfl ?_
  refine ev_br (b1 := false) rfl rfl (xcd_nlt (x := b) (y := 0) (by rw [show ((0 : Int32)).toInt = 0 from by decide]; first | exact b2 | omega)) ?_
  refine ev_go 2 (pc1 := 17) (lv1 := [.ref 0, .int a, .int b]) (st1 := [.int 2, .int b]) (h1 := (124, I, J, R)) rfl ?_
  refine ev_br (b1 := false) rfl rfl (xcd_nle (x := b) (y := 2) (by rw [show ((2 : Int32)).toInt = 2 from by decide]; first | exact b3 | omega)) ?_
  refine ev_go 1 (pc1 := 22) (lv1 := [.ref 0, .int a, .int b]) (st1 := [.int (-2)]) (h1 := (124, I, J, R)) rfl ?_
  exact ev_ret rfl rfl
set_option maxRecDepth 20000 in
theorem uq_o_23 {L : Nat} {xs : Nat → Int32} {d : Nat} {I : Nat → Nat → Int32} {J : Nat → Nat → Int64} {R : Nat → Nat → Nat} {a b c : Int32} (hG : aGd R) (r_R_0_8 : R 0 8 = 24) (c1 : xEv L xs d 59 0 [.ref 23, .int a] [] (124, I, J, R) (some (.int c)) (124, I, J, R)) (b1 : c.toInt ≠ 0) (b2 : b.toInt ≥ 0) (b3 : b.toInt ≤ 2) (b4 : (I 66 4).toInt = 0) : xEv L xs (d + 1) 133 0 [.ref 0, .int a, .int b] [] (124, I, J, R) (some (.int (-1))) (124, I, J, R) := by
  refine ev_go 1 (pc1 := 1) (lv1 := [.ref 0, .int a, .int b]) (st1 := [.ref 0]) (h1 := (124, I, J, R)) rfl ?_
  refine ev_gf (c := 0) (t := 23) (X := R 0 8) rfl rfl (fun _ => rfl) rfl r_R_0_8 ?_
  refine ev_go 1 (pc1 := 5) (lv1 := [.ref 0, .int a, .int b]) (st1 := [.int a, .ref 23]) (h1 := (124, I, J, R)) rfl ?_
  refine ev_call (v1 := (some (.int c))) (h1 := (124, I, J, R)) rfl rfl c1 ?_
  refine ev_br (b1 := false) rfl rfl (xcd_neq (x := c) (y := 0) (by rw [show ((0 : Int32)).toInt = 0 from by decide]; first | exact b1 | omega)) ?_
  refine ev_go 1 (pc1 := 12) (lv1 := [.ref 0, .int a, .int b]) (st1 := [.int b]) (h1 := (124, I, J, R)) rfl ?_
  refine ev_br (b1 := false) rfl rfl (xcd_nlt (x := b) (y := 0) (by rw [show ((0 : Int32)).toInt = 0 from by decide]; first | exact b2 | omega)) ?_
  refine ev_go 2 (pc1 := 17) (lv1 := [.ref 0, .int a, .int b]) (st1 := [.int 2, .int b]) (h1 := (124, I, J, R)) rfl ?_
  refine ev_br (b1 := true) rfl rfl (xcd_le (x := b) (y := 2) (by rw [show ((2 : Int32)).toInt = 2 from by decide]; first | exact b3 | omega)) ?_
  refine ev_go 1 (pc1 := 24) (lv1 := [.ref 0, .int a, .int b]) (st1 := [.ref 0]) (h1 := (124, I, J, R)) rfl ?_
  refine ev_gf (c := 0) (t := 63) (X := R 0 7) rfl rfl (fun _ => rfl) rfl (hG 0 7 63 rfl rfl) ?_
  refine ev_gf (c := 63) (t := 66) (X := R 63 3) rfl rfl (fun _ => rfl) rfl (hG 63 3 66 rfl rfl) ?_
  refine ev_go 1 (pc1 := 33) (lv1 := [.ref 0, .int a, .int b]) (st1 := [.int (I 66 4)]) (h1 := (124, I, J, R)) rfl ?_
  refine ev_br (b1 := false) rfl rfl (xcd_nne (x := (I 66 4)) (y := 0) (by rw [show ((0 : Int32)).toInt = 0 from by decide]; first | exact b4 | omega)) ?_
  refine ev_go 1 (pc1 := 37) (lv1 := [.ref 0, .int a, .int b]) (st1 := [.int (-1)]) (h1 := (124, I, J, R)) rfl ?_
  exact ev_ret rfl rfl
set_option maxRecDepth 20000 in
theorem uq_0_23 {L : Nat} {xs : Nat → Int32} {d : Nat} {I : Nat → Nat → Int32} {J : Nat → Nat → Int64} {R : Nat → Nat → Nat} {a b c w : Int32} (hG : aGd R) (r_R_0_8 : R 0 8 = 24) (c1 : xEv L xs d 59 0 [.ref 23, .int a] [] (124, I, J, R) (some (.int c)) (124, I, J, R)) (b1 : c.toInt ≠ 0) (b2 : b.toInt ≥ 0) (b3 : b.toInt ≤ 2) (b4 : (I 66 4).toInt ≠ 0) (b5 : b.toInt = 0) (c2 : xEv L xs d 39 0 [.ref 67, .int a] [] (124, I, J, R) (some (.int w)) (124, I, J, R)) : xEv L xs (d + 1) 133 0 [.ref 0, .int a, .int b] [] (124, I, J, R) (some (.int w)) (124, I, J, R) := by
  refine ev_go 1 (pc1 := 1) (lv1 := [.ref 0, .int a, .int b]) (st1 := [.ref 0]) (h1 := (124, I, J, R)) rfl ?_
  refine ev_gf (c := 0) (t := 23) (X := R 0 8) rfl rfl (fun _ => rfl) rfl r_R_0_8 ?_
  refine ev_go 1 (pc1 := 5) (lv1 := [.ref 0, .int a, .int b]) (st1 := [.int a, .ref 23]) (h1 := (124, I, J, R)) rfl ?_
  refine ev_call (v1 := (some (.int c))) (h1 := (124, I, J, R)) rfl rfl c1 ?_
  refine ev_br (b1 := false) rfl rfl (xcd_neq (x := c) (y := 0) (by rw [show ((0 : Int32)).toInt = 0 from by decide]; first | exact b1 | omega)) ?_
  refine ev_go 1 (pc1 := 12) (lv1 := [.ref 0, .int a, .int b]) (st1 := [.int b]) (h1 := (124, I, J, R)) rfl ?_
  refine ev_br (b1 := false) rfl rfl (xcd_nlt (x := b) (y := 0) (by rw [show ((0 : Int32)).toInt = 0 from by decide]; first | exact b2 | omega)) ?_
  refine ev_go 2 (pc1 := 17) (lv1 := [.ref 0, .int a, .int b]) (st1 := [.int 2, .int b]) (h1 := (124, I, J, R)) rfl ?_
  refine ev_br (b1 := true) rfl rfl (xcd_le (x := b) (y := 2) (by rw [show ((2 : Int32)).toInt = 2 from by decide]; first | exact b3 | omega)) ?_
  refine ev_go 1 (pc1 := 24) (lv1 := [.ref 0, .int a, .int b]) (st1 := [.ref 0]) (h1 := (124, I, J, R)) rfl ?_
  refine ev_gf (c := 0) (t := 63) (X := R 0 7) rfl rfl (fun _ => rfl) rfl (hG 0 7 63 rfl rfl) ?_
  refine ev_gf (c := 63) (t := 66) (X := R 63 3) rfl rfl (fun _ => rfl) rfl (hG 63 3 66 rfl rfl) ?_
  refine ev_go 1 (pc1 := 33) (lv1 := [.ref 0, .int a, .int b]) (st1 := [.int (I 66 4)]) (h1 := (124, I, J, R)) rfl ?_
  refine ev_br (b1 := true) rfl rfl (xcd_ne (x := (I 66 4)) (y := 0) (by rw [show ((0 : Int32)).toInt = 0 from by decide]; first | exact b4 | omega)) ?_
  refine ev_go 1 (pc1 := 39) (lv1 := [.ref 0, .int a, .int b]) (st1 := [.int b]) (h1 := (124, I, J, R)) rfl ?_
  refine ev_lk1 (x := b) (z := 0) (t := 64) rfl rfl b5 rfl rfl ?_
  refine ev_go 1 (pc1 := 65) (lv1 := [.ref 0, .int a, .int b]) (st1 := [.ref 0]) (h1 := (124, I, J, R)) rfl ?_
  refine ev_gf (c := 0) (t := 63) (X := R 0 7) rfl rfl (fun _ => rfl) rfl (hG 0 7 63 rfl rfl) ?_
  refine ev_gf (c := 63) (t := 66) (X := R 63 3) rfl rfl (fun _ => rfl) rfl (hG 63 3 66 rfl rfl) ?_
  refine ev_gf (c := 66) (t := 67) (X := R 66 0) rfl rfl (fun _ => rfl) rfl (hG 66 0 67 rfl rfl) ?_
  refine ev_go 1 (pc1 := 75) (lv1 := [.ref 0, .int a, .int b]) (st1 := [.int a, .ref 67]) (h1 := (124, I, J, R)) rfl ?_
  refine ev_call (v1 := (some (.int w))) (h1 := (124, I, J, R)) rfl rfl c2 ?_
  exact ev_ret rfl rfl
set_option maxRecDepth 20000 in
theorem uq_1_23 {L : Nat} {xs : Nat → Int32} {d : Nat} {I : Nat → Nat → Int32} {J : Nat → Nat → Int64} {R : Nat → Nat → Nat} {a b c w : Int32} (hG : aGd R) (r_R_0_8 : R 0 8 = 24) (c1 : xEv L xs d 59 0 [.ref 23, .int a] [] (124, I, J, R) (some (.int c)) (124, I, J, R)) (b1 : c.toInt ≠ 0) (b2 : b.toInt ≥ 0) (b3 : b.toInt ≤ 2) (b4 : (I 66 4).toInt ≠ 0) (b5 : b.toInt = 1) (c2 : xEv L xs d 39 0 [.ref 68, .int a] [] (124, I, J, R) (some (.int w)) (124, I, J, R)) : xEv L xs (d + 1) 133 0 [.ref 0, .int a, .int b] [] (124, I, J, R) (some (.int w)) (124, I, J, R) := by
  refine ev_go 1 (pc1 := 1) (lv1 := [.ref 0, .int a, .int b]) (st1 := [.ref 0]) (h1 := (124, I, J, R)) rfl ?_
  refine ev_gf (c := 0) (t := 23) (X := R 0 8) rfl rfl (fun _ => rfl) rfl r_R_0_8 ?_
  refine ev_go 1 (pc1 := 5) (lv1 := [.ref 0, .int a, .int b]) (st1 := [.int a, .ref 23]) (h1 := (124, I, J, R)) rfl ?_
  refine ev_call (v1 := (some (.int c))) (h1 := (124, I, J, R)) rfl rfl c1 ?_
  refine ev_br (b1 := false) rfl rfl (xcd_neq (x := c) (y := 0) (by rw [show ((0 : Int32)).toInt = 0 from by decide]; first | exact b1 | omega)) ?_
  refine ev_go 1 (pc1 := 12) (lv1 := [.ref 0, .int a, .int b]) (st1 := [.int b]) (h1 := (124, I, J, R)) rfl ?_
  refine ev_br (b1 := false) rfl rfl (xcd_nlt (x := b) (y := 0) (by rw [show ((0 : Int32)).toInt = 0 from by decide]; first | exact b2 | omega)) ?_
  refine ev_go 2 (pc1 := 17) (lv1 := [.ref 0, .int a, .int b]) (st1 := [.int 2, .int b]) (h1 := (124, I, J, R)) rfl ?_
  refine ev_br (b1 := true) rfl rfl (xcd_le (x := b) (y := 2) (by rw [show ((2 : Int32)).toInt = 2 from by decide]; first | exact b3 | omega)) ?_
  refine ev_go 1 (pc1 := 24) (lv1 := [.ref 0, .int a, .int b]) (st1 := [.ref 0]) (h1 := (124, I, J, R)) rfl ?_
  refine ev_gf (c := 0) (t := 63) (X := R 0 7) rfl rfl (fun _ => rfl) rfl (hG 0 7 63 rfl rfl) ?_
  refine ev_gf (c := 63) (t := 66) (X := R 63 3) rfl rfl (fun _ => rfl) rfl (hG 63 3 66 rfl rfl) ?_
  refine ev_go 1 (pc1 := 33) (lv1 := [.ref 0, .int a, .int b]) (st1 := [.int (I 66 4)]) (h1 := (124, I, J, R)) rfl ?_
  refine ev_br (b1 := true) rfl rfl (xcd_ne (x := (I 66 4)) (y := 0) (by rw [show ((0 : Int32)).toInt = 0 from by decide]; first | exact b4 | omega)) ?_
  refine ev_go 1 (pc1 := 39) (lv1 := [.ref 0, .int a, .int b]) (st1 := [.int b]) (h1 := (124, I, J, R)) rfl ?_
  refine ev_lk1 (x := b) (z := 1) (t := 79) rfl rfl b5 rfl rfl ?_
  refine ev_go 1 (pc1 := 80) (lv1 := [.ref 0, .int a, .int b]) (st1 := [.ref 0]) (h1 := (124, I, J, R)) rfl ?_
  refine ev_gf (c := 0) (t := 63) (X := R 0 7) rfl rfl (fun _ => rfl) rfl (hG 0 7 63 rfl rfl) ?_
  refine ev_gf (c := 63) (t := 66) (X := R 63 3) rfl rfl (fun _ => rfl) rfl (hG 63 3 66 rfl rfl) ?_
  refine ev_gf (c := 66) (t := 68) (X := R 66 1) rfl rfl (fun _ => rfl) rfl (hG 66 1 68 rfl rfl) ?_
  refine ev_go 1 (pc1 := 90) (lv1 := [.ref 0, .int a, .int b]) (st1 := [.int a, .ref 68]) (h1 := (124, I, J, R)) rfl ?_
  refine ev_call (v1 := (some (.int w))) (h1 := (124, I, J, R)) rfl rfl c2 ?_
  exact ev_ret rfl rfl
set_option maxRecDepth 20000 in
theorem uq_2_23 {L : Nat} {xs : Nat → Int32} {d : Nat} {I : Nat → Nat → Int32} {J : Nat → Nat → Int64} {R : Nat → Nat → Nat} {a b c w : Int32} (hG : aGd R) (r_R_0_8 : R 0 8 = 24) (c1 : xEv L xs d 59 0 [.ref 23, .int a] [] (124, I, J, R) (some (.int c)) (124, I, J, R)) (b1 : c.toInt ≠ 0) (b2 : b.toInt ≥ 0) (b3 : b.toInt ≤ 2) (b4 : (I 66 4).toInt ≠ 0) (b5 : b.toInt ≠ 0 ∧ b.toInt ≠ 1) (c2 : xEv L xs d 39 0 [.ref 69, .int a] [] (124, I, J, R) (some (.int w)) (124, I, J, R)) : xEv L xs (d + 1) 133 0 [.ref 0, .int a, .int b] [] (124, I, J, R) (some (.int w)) (124, I, J, R) := by
  refine ev_go 1 (pc1 := 1) (lv1 := [.ref 0, .int a, .int b]) (st1 := [.ref 0]) (h1 := (124, I, J, R)) rfl ?_
  refine ev_gf (c := 0) (t := 23) (X := R 0 8) rfl rfl (fun _ => rfl) rfl r_R_0_8 ?_
  refine ev_go 1 (pc1 := 5) (lv1 := [.ref 0, .int a, .int b]) (st1 := [.int a, .ref 23]) (h1 := (124, I, J, R)) rfl ?_
  refine ev_call (v1 := (some (.int c))) (h1 := (124, I, J, R)) rfl rfl c1 ?_
  refine ev_br (b1 := false) rfl rfl (xcd_neq (x := c) (y := 0) (by rw [show ((0 : Int32)).toInt = 0 from by decide]; first | exact b1 | omega)) ?_
  refine ev_go 1 (pc1 := 12) (lv1 := [.ref 0, .int a, .int b]) (st1 := [.int b]) (h1 := (124, I, J, R)) rfl ?_
  refine ev_br (b1 := false) rfl rfl (xcd_nlt (x := b) (y := 0) (by rw [show ((0 : Int32)).toInt = 0 from by decide]; first | exact b2 | omega)) ?_
  refine ev_go 2 (pc1 := 17) (lv1 := [.ref 0, .int a, .int b]) (st1 := [.int 2, .int b]) (h1 := (124, I, J, R)) rfl ?_
  refine ev_br (b1 := true) rfl rfl (xcd_le (x := b) (y := 2) (by rw [show ((2 : Int32)).toInt = 2 from by decide]; first | exact b3 | omega)) ?_
  refine ev_go 1 (pc1 := 24) (lv1 := [.ref 0, .int a, .int b]) (st1 := [.ref 0]) (h1 := (124, I, J, R)) rfl ?_
  refine ev_gf (c := 0) (t := 63) (X := R 0 7) rfl rfl (fun _ => rfl) rfl (hG 0 7 63 rfl rfl) ?_
  refine ev_gf (c := 63) (t := 66) (X := R 63 3) rfl rfl (fun _ => rfl) rfl (hG 63 3 66 rfl rfl) ?_
  refine ev_go 1 (pc1 := 33) (lv1 := [.ref 0, .int a, .int b]) (st1 := [.int (I 66 4)]) (h1 := (124, I, J, R)) rfl ?_
  refine ev_br (b1 := true) rfl rfl (xcd_ne (x := (I 66 4)) (y := 0) (by rw [show ((0 : Int32)).toInt = 0 from by decide]; first | exact b4 | omega)) ?_
  refine ev_go 1 (pc1 := 39) (lv1 := [.ref 0, .int a, .int b]) (st1 := [.int b]) (h1 := (124, I, J, R)) rfl ?_
  refine ev_lkp (x := b) (t := 94) rfl rfl (fun p hp => by have hp' : p ∈ [((0 : Int), (25 : Int)), (1, 40)] := hp; simp only [List.mem_cons, List.not_mem_nil, or_false] at hp'; rcases hp' with rfl | rfl; exact b5.1; exact b5.2) rfl ?_
  refine ev_go 1 (pc1 := 95) (lv1 := [.ref 0, .int a, .int b]) (st1 := [.ref 0]) (h1 := (124, I, J, R)) rfl ?_
  refine ev_gf (c := 0) (t := 63) (X := R 0 7) rfl rfl (fun _ => rfl) rfl (hG 0 7 63 rfl rfl) ?_
  refine ev_gf (c := 63) (t := 66) (X := R 63 3) rfl rfl (fun _ => rfl) rfl (hG 63 3 66 rfl rfl) ?_
  refine ev_gf (c := 66) (t := 69) (X := R 66 2) rfl rfl (fun _ => rfl) rfl (hG 66 2 69 rfl rfl) ?_
  refine ev_go 1 (pc1 := 105) (lv1 := [.ref 0, .int a, .int b]) (st1 := [.int a, .ref 69]) (h1 := (124, I, J, R)) rfl ?_
  refine ev_call (v1 := (some (.int w))) (h1 := (124, I, J, R)) rfl rfl c2 ?_
  exact ev_ret rfl rfl
set_option maxRecDepth 20000 in
theorem uj_x_23 {L : Nat} {xs : Nat → Int32} {d : Nat} {I : Nat → Nat → Int32} {J : Nat → Nat → Int64} {R : Nat → Nat → Nat} {a b c : Int32} (hG : aGd R) (r_R_0_8 : R 0 8 = 24) (c1 : xEv L xs d 64 0 [.ref 23, .int a] [] (124, I, J, R) (some (.int c)) (124, I, J, R)) (b1 : c.toInt = 0) : xEv L xs (d + 1) 134 0 [.ref 0, .int a, .int b] [] (124, I, J, R) (some (.int (-2))) (124, I, J, R) := by
  refine ev_go 1 (pc1 := 1) (lv1 := [.ref 0, .int a, .int b]) (st1 := [.ref 0]) (h1 := (124, I, J, R)) rfl ?_
  refine ev_gf (c := 0) (t := 23) (X := R 0 8) rfl rfl (fun _ => rfl) rfl r_R_0_8 ?_
  refine ev_go 1 (pc1 := 5) (lv1 := [.ref 0, .int a, .int b]) (st1 := [.int a, .ref 23]) (h1 := (124, I, J, R)) rfl ?_
  refine ev_call (v1 := (some (.int c))) (h1 := (124, I, J, R)) rfl rfl c1 ?_
  refine ev_br (b1 := true) rfl rfl (xcd_eq (x := c) (y := 0) (by rw [show ((0 : Int32)).toInt = 0 from by decide]; first | exact b1 | omega)) ?_
  refine ev_go 1 (pc1 := 22) (lv1 := [.ref 0, .int a, .int b]) (st1 := [.int (-2)]) (h1 := (124, I, J, R)) rfl ?_
  exact ev_ret rfl rfl
set_option maxRecDepth 20000 in
theorem uj_l_23 {L : Nat} {xs : Nat → Int32} {d : Nat} {I : Nat → Nat → Int32} {J : Nat → Nat → Int64} {R : Nat → Nat → Nat} {a b c : Int32} (hG : aGd R) (r_R_0_8 : R 0 8 = 24) (c1 : xEv L xs d 64 0 [.ref 23, .int a] [] (124, I, J, R) (some (.int c)) (124, I, J, R)) (b1 : c.toInt ≠ 0) (b2 : b.toInt < 0) : xEv L xs (d + 1) 134 0 [.ref 0, .int a, .int b] [] (124, I, J, R) (some (.int (-2))) (124, I, J, R) := by
  refine ev_go 1 (pc1 := 1) (lv1 := [.ref 0, .int a, .int b]) (st1 := [.ref 0]) (h1 := (124, I, J, R)) rfl ?_
  refine ev_gf (c := 0) (t := 23) (X := R 0 8) rfl rfl (fun _ => rfl) rfl r_R_0_8 ?_
  refine ev_go 1 (pc1 := 5) (lv1 := [.ref 0, .int a, .int b]) (st1 := [.int a, .ref 23]) (h1 := (124, I, J, R)) rfl ?_
  refine ev_call (v1 := (some (.int c))) (h1 := (124, I, J, R)) rfl rfl c1 ?_
  refine ev_br (b1 := false) rfl rfl (xcd_neq (x := c) (y := 0) (by rw [show ((0 : Int32)).toInt = 0 from by decide]; first | exact b1 | omega)) ?_
  refine ev_go 1 (pc1 := 12) (lv1 := [.ref 0, .int a, .int b]) (st1 := [.int b]) (h1 := (124, I, J, R)) rfl ?_
  refine ev_br (b1 := true) rfl rfl (xcd_lt (x := b) (y := 0) (by rw [show ((0 : Int32)).toInt = 0 from by decide]; first | exact b2 | omega)) ?_
  refine ev_go 1 (pc1 := 22) (lv1 := [.ref 0, .int a, .int b]) (st1 := [.int (-2)]) (h1 := (124, I, J, R)) rfl ?_
  exact ev_ret rfl rfl
set_option maxRecDepth 20000 in
theorem uj_h_23 {L : Nat} {xs : Nat → Int32} {d : Nat} {I : Nat → Nat → Int32} {J : Nat → Nat → Int64} {R : Nat → Nat → Nat} {a b c : Int32} (hG : aGd R) (r_R_0_8 : R 0 8 = 24) (c1 : xEv L xs d 64 0 [.ref 23, .int a] [] (124, I, J, R) (some (.int c)) (124, I, J, R)) (b1 : c.toInt ≠ 0) (b2 : b.toInt ≥ 0) (b3 : b.toInt > 1) : xEv L xs (d + 1) 134 0 [.ref 0, .int a, .int b] [] (124, I, J, R) (some (.int (-2))) (124, I, J, R) := by
  refine ev_go 1 (pc1 := 1) (lv1 := [.ref 0, .int a, .int b]) (st1 := [.ref 0]) (h1 := (124, I, J, R)) rfl ?_
  refine ev_gf (c := 0) (t := 23) (X := R 0 8) rfl rfl (fun _ => rfl) rfl r_R_0_8 ?_
  refine ev_go 1 (pc1 := 5) (lv1 := [.ref 0, .int a, .int b]) (st1 := [.int a, .ref 23]) (h1 := (124, I, J, R)) rfl ?_
  refine ev_call (v1 := (some (.int c))) (h1 := (124, I, J, R)) rfl rfl c1 ?_
  refine ev_br (b1 := false) rfl rfl (xcd_neq (x := c) (y := 0) (by rw [show ((0 : Int32)).toInt = 0 from by decide]; first | exact b1 | omega)) ?_
  refine ev_go 1 (pc1 := 12) (lv1 := [.ref 0, .int a, .int b]) (st1 := [.int b]) (h1 := (124, I, J, R)) rfl ?_
  refine ev_br (b1 := false) rfl rfl (xcd_nlt (x := b) (y := 0) (by rw [show ((0 : Int32)).toInt = 0 from by decide]; first | exact b2 | omega)) ?_
  refine ev_go 2 (pc1 := 17) (lv1 := [.ref 0, .int a, .int b]) (st1 := [.int 1, .int b]) (h1 := (124, I, J, R)) rfl ?_
  refine ev_br (b1 := false) rfl rfl (xcd_nle (x := b) (y := 1) (by rw [show ((1 : Int32)).toInt = 1 from by decide]; first | exact b3 | omega)) ?_
  refine ev_go 1 (pc1 := 22) (lv1 := [.ref 0, .int a, .int b]) (st1 := [.int (-2)]) (h1 := (124, I, J, R)) rfl ?_
  exact ev_ret rfl rfl
set_option maxRecDepth 20000 in
theorem uj_o_23 {L : Nat} {xs : Nat → Int32} {d : Nat} {I : Nat → Nat → Int32} {J : Nat → Nat → Int64} {R : Nat → Nat → Nat} {a b c : Int32} (hG : aGd R) (r_R_0_8 : R 0 8 = 24) (c1 : xEv L xs d 64 0 [.ref 23, .int a] [] (124, I, J, R) (some (.int c)) (124, I, J, R)) (b1 : c.toInt ≠ 0) (b2 : b.toInt ≥ 0) (b3 : b.toInt ≤ 1) (b4 : (I 66 4).toInt = 0) : xEv L xs (d + 1) 134 0 [.ref 0, .int a, .int b] [] (124, I, J, R) (some (.int (-1))) (124, I, J, R) := by
  refine ev_go 1 (pc1 := 1) (lv1 := [.ref 0, .int a, .int b]) (st1 := [.ref 0]) (h1 := (124, I, J, R)) rfl ?_
  refine ev_gf (c := 0) (t := 23) (X := R 0 8) rfl rfl (fun _ => rfl) rfl r_R_0_8 ?_
  refine ev_go 1 (pc1 := 5) (lv1 := [.ref 0, .int a, .int b]) (st1 := [.int a, .ref 23]) (h1 := (124, I, J, R)) rfl ?_
  refine ev_call (v1 := (some (.int c))) (h1 := (124, I, J, R)) rfl rfl c1 ?_
  refine ev_br (b1 := false) rfl rfl (xcd_neq (x := c) (y := 0) (by rw [show ((0 : Int32)).toInt = 0 from by decide]; first | exact b1 | omega)) ?_
  refine ev_go 1 (pc1 := 12) (lv1 := [.ref 0, .int a, .int b]) (st1 := [.int b]) (h1 := (124, I, J, R)) rfl ?_
  refine ev_br (b1 := false) rfl rfl (xcd_nlt (x := b) (y := 0) (by rw [show ((0 : Int32)).toInt = 0 from by decide]; first | exact b2 | omega)) ?_
  refine ev_go 2 (pc1 := 17) (lv1 := [.ref 0, .int a, .int b]) (st1 := [.int 1, .int b]) (h1 := (124, I, J, R)) rfl ?_
  refine ev_br (b1 := true) rfl rfl (xcd_le (x := b) (y := 1) (by rw [show ((1 : Int32)).toInt = 1 from by decide]; first | exact b3 | omega)) ?_
  refine ev_go 1 (pc1 := 24) (lv1 := [.ref 0, .int a, .int b]) (st1 := [.ref 0]) (h1 := (124, I, J, R)) rfl ?_
  refine ev_gf (c := 0) (t := 63) (X := R 0 7) rfl rfl (fun _ => rfl) rfl (hG 0 7 63 rfl rfl) ?_
  refine ev_gf (c := 63) (t := 66) (X := R 63 3) rfl rfl (fun _ => rfl) rfl (hG 63 3 66 rfl rfl) ?_
  refine ev_go 1 (pc1 := 33) (lv1 := [.ref 0, .int a, .int b]) (st1 := [.int (I 66 4)]) (h1 := (124, I, J, R)) rfl ?_
  refine ev_br (b1 := false) rfl rfl (xcd_nne (x := (I 66 4)) (y := 0) (by rw [show ((0 : Int32)).toInt = 0 from by decide]; first | exact b4 | omega)) ?_
  refine ev_go 1 (pc1 := 37) (lv1 := [.ref 0, .int a, .int b]) (st1 := [.int (-1)]) (h1 := (124, I, J, R)) rfl ?_
  exact ev_ret rfl rfl
set_option maxRecDepth 20000 in
theorem uj_0_23 {L : Nat} {xs : Nat → Int32} {d : Nat} {I : Nat → Nat → Int32} {J : Nat → Nat → Int64} {R : Nat → Nat → Nat} {a b c x w : Int32} (hG : aGd R) (r_R_0_8 : R 0 8 = 24) (c1 : xEv L xs d 64 0 [.ref 23, .int a] [] (124, I, J, R) (some (.int c)) (124, I, J, R)) (b1 : c.toInt ≠ 0) (b2 : b.toInt ≥ 0) (b3 : b.toInt ≤ 1) (b4 : (I 66 4).toInt ≠ 0) (b5 : b.toInt = 0) (c2 : xEv L xs d 125 0 [.ref 66, .int a, xmk, xmk] [] (124, I, J, R) (some (.int x)) (124, I, J, R)) (c3 : xEv L xs d 90 0 [.int x] [] (124, I, J, R) (some (.int w)) (124, I, J, R)) : xEv L xs (d + 1) 134 0 [.ref 0, .int a, .int b] [] (124, I, J, R) (some (.int w)) (124, I, J, R) := by
  refine ev_go 1 (pc1 := 1) (lv1 := [.ref 0, .int a, .int b]) (st1 := [.ref 0]) (h1 := (124, I, J, R)) rfl ?_
  refine ev_gf (c := 0) (t := 23) (X := R 0 8) rfl rfl (fun _ => rfl) rfl r_R_0_8 ?_
  refine ev_go 1 (pc1 := 5) (lv1 := [.ref 0, .int a, .int b]) (st1 := [.int a, .ref 23]) (h1 := (124, I, J, R)) rfl ?_
  refine ev_call (v1 := (some (.int c))) (h1 := (124, I, J, R)) rfl rfl c1 ?_
  refine ev_br (b1 := false) rfl rfl (xcd_neq (x := c) (y := 0) (by rw [show ((0 : Int32)).toInt = 0 from by decide]; first | exact b1 | omega)) ?_
  refine ev_go 1 (pc1 := 12) (lv1 := [.ref 0, .int a, .int b]) (st1 := [.int b]) (h1 := (124, I, J, R)) rfl ?_
  refine ev_br (b1 := false) rfl rfl (xcd_nlt (x := b) (y := 0) (by rw [show ((0 : Int32)).toInt = 0 from by decide]; first | exact b2 | omega)) ?_
  refine ev_go 2 (pc1 := 17) (lv1 := [.ref 0, .int a, .int b]) (st1 := [.int 1, .int b]) (h1 := (124, I, J, R)) rfl ?_
  refine ev_br (b1 := true) rfl rfl (xcd_le (x := b) (y := 1) (by rw [show ((1 : Int32)).toInt = 1 from by decide]; first | exact b3 | omega)) ?_
  refine ev_go 1 (pc1 := 24) (lv1 := [.ref 0, .int a, .int b]) (st1 := [.ref 0]) (h1 := (124, I, J, R)) rfl ?_
  refine ev_gf (c := 0) (t := 63) (X := R 0 7) rfl rfl (fun _ => rfl) rfl (hG 0 7 63 rfl rfl) ?_
  refine ev_gf (c := 63) (t := 66) (X := R 63 3) rfl rfl (fun _ => rfl) rfl (hG 63 3 66 rfl rfl) ?_
  refine ev_go 1 (pc1 := 33) (lv1 := [.ref 0, .int a, .int b]) (st1 := [.int (I 66 4)]) (h1 := (124, I, J, R)) rfl ?_
  refine ev_br (b1 := true) rfl rfl (xcd_ne (x := (I 66 4)) (y := 0) (by rw [show ((0 : Int32)).toInt = 0 from by decide]; first | exact b4 | omega)) ?_
  refine ev_go 1 (pc1 := 39) (lv1 := [.ref 0, .int a, .int b]) (st1 := [.int b]) (h1 := (124, I, J, R)) rfl ?_
  refine ev_br (b1 := false) rfl rfl (xcd_nne (x := b) (y := 0) (by rw [show ((0 : Int32)).toInt = 0 from by decide]; first | exact b5 | omega)) ?_
  refine ev_go 1 (pc1 := 43) (lv1 := [.ref 0, .int a, .int b]) (st1 := [.ref 0]) (h1 := (124, I, J, R)) rfl ?_
  refine ev_gf (c := 0) (t := 63) (X := R 0 7) rfl rfl (fun _ => rfl) rfl (hG 0 7 63 rfl rfl) ?_
  refine ev_gf (c := 63) (t := 66) (X := R 63 3) rfl rfl (fun _ => rfl) rfl (hG 63 3 66 rfl rfl) ?_
  refine ev_go 1 (pc1 := 50) (lv1 := [.ref 0, .int a, .int b]) (st1 := [.int a, .ref 66]) (h1 := (124, I, J, R)) rfl ?_
  refine ev_call (v1 := (some (.int x))) (h1 := (124, I, J, R)) rfl rfl c2 ?_
  refine ev_call (v1 := (some (.int w))) (h1 := (124, I, J, R)) rfl rfl c3 ?_
  refine ev_go 1 (pc1 := 73) (lv1 := [.ref 0, .int a, .int b]) (st1 := [.int w]) (h1 := (124, I, J, R)) rfl ?_
  exact ev_ret rfl rfl
set_option maxRecDepth 20000 in
theorem uj_1_23 {L : Nat} {xs : Nat → Int32} {d : Nat} {I : Nat → Nat → Int32} {J : Nat → Nat → Int64} {R : Nat → Nat → Nat} {a b c : Int32} (hG : aGd R) (r_R_0_8 : R 0 8 = 24) (c1 : xEv L xs d 64 0 [.ref 23, .int a] [] (124, I, J, R) (some (.int c)) (124, I, J, R)) (b1 : c.toInt ≠ 0) (b2 : b.toInt ≥ 0) (b3 : b.toInt ≤ 1) (b4 : (I 66 4).toInt ≠ 0) (b5 : b.toInt ≠ 0) : xEv L xs (d + 1) 134 0 [.ref 0, .int a, .int b] [] (124, I, J, R) (some (.int (((I 66 6) >>> (a &&& 31)) &&& 1))) (124, I, J, R) := by
  refine ev_go 1 (pc1 := 1) (lv1 := [.ref 0, .int a, .int b]) (st1 := [.ref 0]) (h1 := (124, I, J, R)) rfl ?_
  refine ev_gf (c := 0) (t := 23) (X := R 0 8) rfl rfl (fun _ => rfl) rfl r_R_0_8 ?_
  refine ev_go 1 (pc1 := 5) (lv1 := [.ref 0, .int a, .int b]) (st1 := [.int a, .ref 23]) (h1 := (124, I, J, R)) rfl ?_
  refine ev_call (v1 := (some (.int c))) (h1 := (124, I, J, R)) rfl rfl c1 ?_
  refine ev_br (b1 := false) rfl rfl (xcd_neq (x := c) (y := 0) (by rw [show ((0 : Int32)).toInt = 0 from by decide]; first | exact b1 | omega)) ?_
  refine ev_go 1 (pc1 := 12) (lv1 := [.ref 0, .int a, .int b]) (st1 := [.int b]) (h1 := (124, I, J, R)) rfl ?_
  refine ev_br (b1 := false) rfl rfl (xcd_nlt (x := b) (y := 0) (by rw [show ((0 : Int32)).toInt = 0 from by decide]; first | exact b2 | omega)) ?_
  refine ev_go 2 (pc1 := 17) (lv1 := [.ref 0, .int a, .int b]) (st1 := [.int 1, .int b]) (h1 := (124, I, J, R)) rfl ?_
  refine ev_br (b1 := true) rfl rfl (xcd_le (x := b) (y := 1) (by rw [show ((1 : Int32)).toInt = 1 from by decide]; first | exact b3 | omega)) ?_
  refine ev_go 1 (pc1 := 24) (lv1 := [.ref 0, .int a, .int b]) (st1 := [.ref 0]) (h1 := (124, I, J, R)) rfl ?_
  refine ev_gf (c := 0) (t := 63) (X := R 0 7) rfl rfl (fun _ => rfl) rfl (hG 0 7 63 rfl rfl) ?_
  refine ev_gf (c := 63) (t := 66) (X := R 63 3) rfl rfl (fun _ => rfl) rfl (hG 63 3 66 rfl rfl) ?_
  refine ev_go 1 (pc1 := 33) (lv1 := [.ref 0, .int a, .int b]) (st1 := [.int (I 66 4)]) (h1 := (124, I, J, R)) rfl ?_
  refine ev_br (b1 := true) rfl rfl (xcd_ne (x := (I 66 4)) (y := 0) (by rw [show ((0 : Int32)).toInt = 0 from by decide]; first | exact b4 | omega)) ?_
  refine ev_go 1 (pc1 := 39) (lv1 := [.ref 0, .int a, .int b]) (st1 := [.int b]) (h1 := (124, I, J, R)) rfl ?_
  refine ev_br (b1 := true) rfl rfl (xcd_ne (x := b) (y := 0) (by rw [show ((0 : Int32)).toInt = 0 from by decide]; first | exact b5 | omega)) ?_
  refine ev_go 1 (pc1 := 60) (lv1 := [.ref 0, .int a, .int b]) (st1 := [.ref 0]) (h1 := (124, I, J, R)) rfl ?_
  refine ev_gf (c := 0) (t := 63) (X := R 0 7) rfl rfl (fun _ => rfl) rfl (hG 0 7 63 rfl rfl) ?_
  refine ev_gf (c := 63) (t := 66) (X := R 63 3) rfl rfl (fun _ => rfl) rfl (hG 63 3 66 rfl rfl) ?_
  refine ev_go 2 (pc1 := 70) (lv1 := [.ref 0, .int a, .int b]) (st1 := [.int a, .int (I 66 6)]) (h1 := (124, I, J, R)) rfl ?_
  refine ev_go 3 (pc1 := 73) (lv1 := [.ref 0, .int a, .int b]) (st1 := [.int (((I 66 6) >>> (a &&& 31)) &&& 1)]) (h1 := (124, I, J, R)) rfl ?_
  exact ev_ret rfl rfl
set_option maxRecDepth 20000 in
theorem vq_x {L : Nat} {xs : Nat → Int32} {d : Nat} {I : Nat → Nat → Int32} {J : Nat → Nat → Int64} {R : Nat → Nat → Nat} {a b c : Int32} (hG : aGd R) (c1 : xEv L xs d 168 0 [.ref 86, .int a] [] (124, I, J, R) (some (.int c)) (124, I, J, R)) (b1 : c.toInt = 0) : xEv L xs (d + 1) 231 0 [.ref 86, .int a, .int b] [] (124, I, J, R) (some (.int (-2))) (124, I, J, R) := by
  refine ev_go 2 (pc1 := 2) (lv1 := [.ref 86, .int a, .int b]) (st1 := [.int a, .ref 86]) (h1 := (124, I, J, R)) rfl ?_
  refine ev_call (v1 := (some (.int c))) (h1 := (124, I, J, R)) rfl rfl c1 ?_
  refine ev_br (b1 := true) rfl rfl (xcd_eq (x := c) (y := 0) (by rw [show ((0 : Int32)).toInt = 0 from by decide]; first | exact b1 | omega)) ?_
  refine ev_go 1 (pc1 := 19) (lv1 := [.ref 86, .int a, .int b]) (st1 := [.int (-2)]) (h1 := (124, I, J, R)) rfl ?_
  exact ev_ret rfl rfl
set_option maxRecDepth 20000 in
theorem vq_y {L : Nat} {xs : Nat → Int32} {d : Nat} {I : Nat → Nat → Int32} {J : Nat → Nat → Int64} {R : Nat → Nat → Nat} {a b c e : Int32} (hG : aGd R) (c1 : xEv L xs d 168 0 [.ref 86, .int a] [] (124, I, J, R) (some (.int c)) (124, I, J, R)) (b1 : c.toInt ≠ 0) (c2 : xEv L xs d 160 0 [.int b, .int 0, .int 2] [] (124, I, J, R) (some (.int e)) (124, I, J, R)) (b2 : e.toInt = 0) : xEv L xs (d + 1) 231 0 [.ref 86, .int a, .int b] [] (124, I, J, R) (some (.int (-2))) (124, I, J, R) := by
  refine ev_go 2 (pc1 := 2) (lv1 := [.ref 86, .int a, .int b]) (st1 := [.int a, .ref 86]) (h1 := (124, I, J, R)) rfl ?_
  refine ev_call (v1 := (some (.int c))) (h1 := (124, I, J, R)) rfl rfl c1 ?_
  refine ev_br (b1 := false) rfl rfl (xcd_neq (x := c) (y := 0) (by rw [show ((0 : Int32)).toInt = 0 from by decide]; first | exact b1 | omega)) ?_
  refine ev_go 3 (pc1 := 11) (lv1 := [.ref 86, .int a, .int b]) (st1 := [.int 2, .int 0, .int b]) (h1 := (124, I, J, R)) rfl ?_
  refine ev_call (v1 := (some (.int e))) (h1 := (124, I, J, R)) rfl rfl c2 ?_
  refine ev_br (b1 := false) rfl rfl (xcd_nne (x := e) (y := 0) (by rw [show ((0 : Int32)).toInt = 0 from by decide]; first | exact b2 | omega)) ?_
  refine ev_go 1 (pc1 := 19) (lv1 := [.ref 86, .int a, .int b]) (st1 := [.int (-2)]) (h1 := (124, I, J, R)) rfl ?_
  exact ev_ret rfl rfl
set_option maxRecDepth 20000 in
theorem vq_o {L : Nat} {xs : Nat → Int32} {d : Nat} {I : Nat → Nat → Int32} {J : Nat → Nat → Int64} {R : Nat → Nat → Nat} {a b c e : Int32} (hG : aGd R) (c1 : xEv L xs d 168 0 [.ref 86, .int a] [] (124, I, J, R) (some (.int c)) (124, I, J, R)) (b1 : c.toInt ≠ 0) (c2 : xEv L xs d 160 0 [.int b, .int 0, .int 2] [] (124, I, J, R) (some (.int e)) (124, I, J, R)) (b2 : e.toInt ≠ 0) (b3 : (I 121 0).toInt = 0) : xEv L xs (d + 1) 231 0 [.ref 86, .int a, .int b] [] (124, I, J, R) (some (.int (-1))) (124, I, J, R) := by
  refine ev_go 2 (pc1 := 2) (lv1 := [.ref 86, .int a, .int b]) (st1 := [.int a, .ref 86]) (h1 := (124, I, J, R)) rfl ?_
  refine ev_call (v1 := (some (.int c))) (h1 := (124, I, J, R)) rfl rfl c1 ?_
  refine ev_br (b1 := false) rfl rfl (xcd_neq (x := c) (y := 0) (by rw [show ((0 : Int32)).toInt = 0 from by decide]; first | exact b1 | omega)) ?_
  refine ev_go 3 (pc1 := 11) (lv1 := [.ref 86, .int a, .int b]) (st1 := [.int 2, .int 0, .int b]) (h1 := (124, I, J, R)) rfl ?_
  refine ev_call (v1 := (some (.int e))) (h1 := (124, I, J, R)) rfl rfl c2 ?_
  refine ev_br (b1 := true) rfl rfl (xcd_ne (x := e) (y := 0) (by rw [show ((0 : Int32)).toInt = 0 from by decide]; first | exact b2 | omega)) ?_
  refine ev_go 1 (pc1 := 21) (lv1 := [.ref 86, .int a, .int b]) (st1 := [.ref 86]) (h1 := (124, I, J, R)) rfl ?_
  refine ev_gf (c := 86) (t := 121) (X := R 86 56) rfl rfl (fun _ => rfl) rfl (hG 86 56 121 rfl rfl) ?_
  refine ev_go 2 (pc1 := 26) (lv1 := [.ref 86, .int a, .int b]) (st1 := [.int (I 121 0)]) (h1 := (124, I, J, R)) rfl ?_
  refine ev_br (b1 := false) rfl rfl (xcd_nne (x := (I 121 0)) (y := 0) (by rw [show ((0 : Int32)).toInt = 0 from by decide]; first | exact b3 | omega)) ?_
  refine ev_go 2 (pc1 := 75) (lv1 := [.ref 86, .int a, .int b]) (st1 := [.int (-1)]) (h1 := (124, I, J, R)) rfl ?_
  exact ev_ret rfl rfl
set_option maxRecDepth 20000 in
theorem vq_0 {L : Nat} {xs : Nat → Int32} {d : Nat} {I : Nat → Nat → Int32} {J : Nat → Nat → Int64} {R : Nat → Nat → Nat} {a b c e : Int32} (hG : aGd R) (c1 : xEv L xs d 168 0 [.ref 86, .int a] [] (124, I, J, R) (some (.int c)) (124, I, J, R)) (b1 : c.toInt ≠ 0) (c2 : xEv L xs d 160 0 [.int b, .int 0, .int 2] [] (124, I, J, R) (some (.int e)) (124, I, J, R)) (b2 : e.toInt ≠ 0) (b3 : (I 121 0).toInt ≠ 0) (b4 : b.toInt = 0) (n1 : 0 ≤ (9 + a).toInt) (m1 : (9 + a).toInt < 100) : xEv L xs (d + 1) 231 0 [.ref 86, .int a, .int b] [] (124, I, J, R) (some (.int (I 121 (9 + a).toNatClampNeg))) (124, I, J, R) := by
  refine ev_go 2 (pc1 := 2) (lv1 := [.ref 86, .int a, .int b]) (st1 := [.int a, .ref 86]) (h1 := (124, I, J, R)) rfl ?_
  refine ev_call (v1 := (some (.int c))) (h1 := (124, I, J, R)) rfl rfl c1 ?_
  refine ev_br (b1 := false) rfl rfl (xcd_neq (x := c) (y := 0) (by rw [show ((0 : Int32)).toInt = 0 from by decide]; first | exact b1 | omega)) ?_
  refine ev_go 3 (pc1 := 11) (lv1 := [.ref 86, .int a, .int b]) (st1 := [.int 2, .int 0, .int b]) (h1 := (124, I, J, R)) rfl ?_
  refine ev_call (v1 := (some (.int e))) (h1 := (124, I, J, R)) rfl rfl c2 ?_
  refine ev_br (b1 := true) rfl rfl (xcd_ne (x := e) (y := 0) (by rw [show ((0 : Int32)).toInt = 0 from by decide]; first | exact b2 | omega)) ?_
  refine ev_go 1 (pc1 := 21) (lv1 := [.ref 86, .int a, .int b]) (st1 := [.ref 86]) (h1 := (124, I, J, R)) rfl ?_
  refine ev_gf (c := 86) (t := 121) (X := R 86 56) rfl rfl (fun _ => rfl) rfl (hG 86 56 121 rfl rfl) ?_
  refine ev_go 2 (pc1 := 26) (lv1 := [.ref 86, .int a, .int b]) (st1 := [.int (I 121 0)]) (h1 := (124, I, J, R)) rfl ?_
  refine ev_br (b1 := true) rfl rfl (xcd_ne (x := (I 121 0)) (y := 0) (by rw [show ((0 : Int32)).toInt = 0 from by decide]; first | exact b3 | omega)) ?_
  refine ev_go 1 (pc1 := 34) (lv1 := [.ref 86, .int a, .int b]) (st1 := [.int b]) (h1 := (124, I, J, R)) rfl ?_
  refine ev_br (b1 := false) rfl rfl (xcd_nne (x := b) (y := 0) (by rw [show ((0 : Int32)).toInt = 0 from by decide]; first | exact b4 | omega)) ?_
  refine ev_go 1 (pc1 := 38) (lv1 := [.ref 86, .int a, .int b]) (st1 := [.ref 86]) (h1 := (124, I, J, R)) rfl ?_
  refine ev_gf (c := 86) (t := 121) (X := R 86 56) rfl rfl (fun _ => rfl) rfl (hG 86 56 121 rfl rfl) ?_
  refine ev_go 3 (pc1 := 45) (lv1 := [.ref 86, .int a, .int b]) (st1 := [.int (9 + a), .ref 121]) (h1 := (124, I, J, R)) rfl ?_
  refine ev_ild (n := 100) rfl rfl (fun _ => rfl) n1 m1 ?_
  refine ev_go 1 (pc1 := 75) (lv1 := [.ref 86, .int a, .int b]) (st1 := [.int (I 121 (9 + a).toNatClampNeg)]) (h1 := (124, I, J, R)) rfl ?_
  exact ev_ret rfl rfl
set_option maxRecDepth 20000 in
theorem vq_1 {L : Nat} {xs : Nat → Int32} {d : Nat} {I : Nat → Nat → Int32} {J : Nat → Nat → Int64} {R : Nat → Nat → Nat} {a b c e : Int32} (hG : aGd R) (c1 : xEv L xs d 168 0 [.ref 86, .int a] [] (124, I, J, R) (some (.int c)) (124, I, J, R)) (b1 : c.toInt ≠ 0) (c2 : xEv L xs d 160 0 [.int b, .int 0, .int 2] [] (124, I, J, R) (some (.int e)) (124, I, J, R)) (b2 : e.toInt ≠ 0) (b3 : (I 121 0).toInt ≠ 0) (b4 : b.toInt ≠ 0) (b5 : b.toInt = 1) (n1 : 0 ≤ (13 + a).toInt) (m1 : (13 + a).toInt < 100) : xEv L xs (d + 1) 231 0 [.ref 86, .int a, .int b] [] (124, I, J, R) (some (.int (I 121 (13 + a).toNatClampNeg))) (124, I, J, R) := by
  refine ev_go 2 (pc1 := 2) (lv1 := [.ref 86, .int a, .int b]) (st1 := [.int a, .ref 86]) (h1 := (124, I, J, R)) rfl ?_
  refine ev_call (v1 := (some (.int c))) (h1 := (124, I, J, R)) rfl rfl c1 ?_
  refine ev_br (b1 := false) rfl rfl (xcd_neq (x := c) (y := 0) (by rw [show ((0 : Int32)).toInt = 0 from by decide]; first | exact b1 | omega)) ?_
  refine ev_go 3 (pc1 := 11) (lv1 := [.ref 86, .int a, .int b]) (st1 := [.int 2, .int 0, .int b]) (h1 := (124, I, J, R)) rfl ?_
  refine ev_call (v1 := (some (.int e))) (h1 := (124, I, J, R)) rfl rfl c2 ?_
  refine ev_br (b1 := true) rfl rfl (xcd_ne (x := e) (y := 0) (by rw [show ((0 : Int32)).toInt = 0 from by decide]; first | exact b2 | omega)) ?_
  refine ev_go 1 (pc1 := 21) (lv1 := [.ref 86, .int a, .int b]) (st1 := [.ref 86]) (h1 := (124, I, J, R)) rfl ?_
  refine ev_gf (c := 86) (t := 121) (X := R 86 56) rfl rfl (fun _ => rfl) rfl (hG 86 56 121 rfl rfl) ?_
  refine ev_go 2 (pc1 := 26) (lv1 := [.ref 86, .int a, .int b]) (st1 := [.int (I 121 0)]) (h1 := (124, I, J, R)) rfl ?_
  refine ev_br (b1 := true) rfl rfl (xcd_ne (x := (I 121 0)) (y := 0) (by rw [show ((0 : Int32)).toInt = 0 from by decide]; first | exact b3 | omega)) ?_
  refine ev_go 1 (pc1 := 34) (lv1 := [.ref 86, .int a, .int b]) (st1 := [.int b]) (h1 := (124, I, J, R)) rfl ?_
  refine ev_br (b1 := true) rfl rfl (xcd_ne (x := b) (y := 0) (by rw [show ((0 : Int32)).toInt = 0 from by decide]; first | exact b4 | omega)) ?_
  refine ev_go 2 (pc1 := 51) (lv1 := [.ref 86, .int a, .int b]) (st1 := [.int 1, .int b]) (h1 := (124, I, J, R)) rfl ?_
  refine ev_br (b1 := false) rfl rfl (xcd_nne (x := b) (y := 1) (by rw [show ((1 : Int32)).toInt = 1 from by decide]; first | exact b5 | omega)) ?_
  refine ev_go 1 (pc1 := 55) (lv1 := [.ref 86, .int a, .int b]) (st1 := [.ref 86]) (h1 := (124, I, J, R)) rfl ?_
  refine ev_gf (c := 86) (t := 121) (X := R 86 56) rfl rfl (fun _ => rfl) rfl (hG 86 56 121 rfl rfl) ?_
  refine ev_go 3 (pc1 := 62) (lv1 := [.ref 86, .int a, .int b]) (st1 := [.int (13 + a), .ref 121]) (h1 := (124, I, J, R)) rfl ?_
  refine ev_ild (n := 100) rfl rfl (fun _ => rfl) n1 m1 ?_
  refine ev_go 1 (pc1 := 75) (lv1 := [.ref 86, .int a, .int b]) (st1 := [.int (I 121 (13 + a).toNatClampNeg)]) (h1 := (124, I, J, R)) rfl ?_
  exact ev_ret rfl rfl
set_option maxRecDepth 20000 in
theorem vq_2 {L : Nat} {xs : Nat → Int32} {d : Nat} {I : Nat → Nat → Int32} {J : Nat → Nat → Int64} {R : Nat → Nat → Nat} {a b c e : Int32} (hG : aGd R) (c1 : xEv L xs d 168 0 [.ref 86, .int a] [] (124, I, J, R) (some (.int c)) (124, I, J, R)) (b1 : c.toInt ≠ 0) (c2 : xEv L xs d 160 0 [.int b, .int 0, .int 2] [] (124, I, J, R) (some (.int e)) (124, I, J, R)) (b2 : e.toInt ≠ 0) (b3 : (I 121 0).toInt ≠ 0) (b4 : b.toInt ≠ 0) (b5 : b.toInt ≠ 1) (n1 : 0 ≤ (17 + a).toInt) (m1 : (17 + a).toInt < 100) : xEv L xs (d + 1) 231 0 [.ref 86, .int a, .int b] [] (124, I, J, R) (some (.int (I 121 (17 + a).toNatClampNeg))) (124, I, J, R) := by
  refine ev_go 2 (pc1 := 2) (lv1 := [.ref 86, .int a, .int b]) (st1 := [.int a, .ref 86]) (h1 := (124, I, J, R)) rfl ?_
  refine ev_call (v1 := (some (.int c))) (h1 := (124, I, J, R)) rfl rfl c1 ?_
  refine ev_br (b1 := false) rfl rfl (xcd_neq (x := c) (y := 0) (by rw [show ((0 : Int32)).toInt = 0 from by decide]; first | exact b1 | omega)) ?_
  refine ev_go 3 (pc1 := 11) (lv1 := [.ref 86, .int a, .int b]) (st1 := [.int 2, .int 0, .int b]) (h1 := (124, I, J, R)) rfl ?_
  refine ev_call (v1 := (some (.int e))) (h1 := (124, I, J, R)) rfl rfl c2 ?_
  refine ev_br (b1 := true) rfl rfl (xcd_ne (x := e) (y := 0) (by rw [show ((0 : Int32)).toInt = 0 from by decide]; first | exact b2 | omega)) ?_
  refine ev_go 1 (pc1 := 21) (lv1 := [.ref 86, .int a, .int b]) (st1 := [.ref 86]) (h1 := (124, I, J, R)) rfl ?_
  refine ev_gf (c := 86) (t := 121) (X := R 86 56) rfl rfl (fun _ => rfl) rfl (hG 86 56 121 rfl rfl) ?_
  refine ev_go 2 (pc1 := 26) (lv1 := [.ref 86, .int a, .int b]) (st1 := [.int (I 121 0)]) (h1 := (124, I, J, R)) rfl ?_
  refine ev_br (b1 := true) rfl rfl (xcd_ne (x := (I 121 0)) (y := 0) (by rw [show ((0 : Int32)).toInt = 0 from by decide]; first | exact b3 | omega)) ?_
  refine ev_go 1 (pc1 := 34) (lv1 := [.ref 86, .int a, .int b]) (st1 := [.int b]) (h1 := (124, I, J, R)) rfl ?_
  refine ev_br (b1 := true) rfl rfl (xcd_ne (x := b) (y := 0) (by rw [show ((0 : Int32)).toInt = 0 from by decide]; first | exact b4 | omega)) ?_
  refine ev_go 2 (pc1 := 51) (lv1 := [.ref 86, .int a, .int b]) (st1 := [.int 1, .int b]) (h1 := (124, I, J, R)) rfl ?_
  refine ev_br (b1 := true) rfl rfl (xcd_ne (x := b) (y := 1) (by rw [show ((1 : Int32)).toInt = 1 from by decide]; first | exact b5 | omega)) ?_
  refine ev_go 1 (pc1 := 67) (lv1 := [.ref 86, .int a, .int b]) (st1 := [.ref 86]) (h1 := (124, I, J, R)) rfl ?_
  refine ev_gf (c := 86) (t := 121) (X := R 86 56) rfl rfl (fun _ => rfl) rfl (hG 86 56 121 rfl rfl) ?_
  refine ev_go 3 (pc1 := 74) (lv1 := [.ref 86, .int a, .int b]) (st1 := [.int (17 + a), .ref 121]) (h1 := (124, I, J, R)) rfl ?_
  refine ev_ild (n := 100) rfl rfl (fun _ => rfl) n1 m1 ?_
  exact ev_ret rfl rfl
set_option maxRecDepth 20000 in
theorem vj_x {L : Nat} {xs : Nat → Int32} {d : Nat} {I : Nat → Nat → Int32} {J : Nat → Nat → Int64} {R : Nat → Nat → Nat} {a b c : Int32} (hG : aGd R) (c1 : xEv L xs d 167 0 [.ref 86, .int a] [] (124, I, J, R) (some (.int c)) (124, I, J, R)) (b1 : c.toInt = 0) : xEv L xs (d + 1) 232 0 [.ref 86, .int a, .int b] [] (124, I, J, R) (some (.int (-2))) (124, I, J, R) := by
  refine ev_go 2 (pc1 := 2) (lv1 := [.ref 86, .int a, .int b]) (st1 := [.int a, .ref 86]) (h1 := (124, I, J, R)) rfl ?_
  refine ev_call (v1 := (some (.int c))) (h1 := (124, I, J, R)) rfl rfl c1 ?_
  refine ev_br (b1 := true) rfl rfl (xcd_eq (x := c) (y := 0) (by rw [show ((0 : Int32)).toInt = 0 from by decide]; first | exact b1 | omega)) ?_
  refine ev_go 1 (pc1 := 19) (lv1 := [.ref 86, .int a, .int b]) (st1 := [.int (-2)]) (h1 := (124, I, J, R)) rfl ?_
  exact ev_ret rfl rfl
set_option maxRecDepth 20000 in
theorem vj_y {L : Nat} {xs : Nat → Int32} {d : Nat} {I : Nat → Nat → Int32} {J : Nat → Nat → Int64} {R : Nat → Nat → Nat} {a b c e : Int32} (hG : aGd R) (c1 : xEv L xs d 167 0 [.ref 86, .int a] [] (124, I, J, R) (some (.int c)) (124, I, J, R)) (b1 : c.toInt ≠ 0) (c2 : xEv L xs d 160 0 [.int b, .int 0, .int 1] [] (124, I, J, R) (some (.int e)) (124, I, J, R)) (b2 : e.toInt = 0) : xEv L xs (d + 1) 232 0 [.ref 86, .int a, .int b] [] (124, I, J, R) (some (.int (-2))) (124, I, J, R) := by
  refine ev_go 2 (pc1 := 2) (lv1 := [.ref 86, .int a, .int b]) (st1 := [.int a, .ref 86]) (h1 := (124, I, J, R)) rfl ?_
  refine ev_call (v1 := (some (.int c))) (h1 := (124, I, J, R)) rfl rfl c1 ?_
  refine ev_br (b1 := false) rfl rfl (xcd_neq (x := c) (y := 0) (by rw [show ((0 : Int32)).toInt = 0 from by decide]; first | exact b1 | omega)) ?_
  refine ev_go 3 (pc1 := 11) (lv1 := [.ref 86, .int a, .int b]) (st1 := [.int 1, .int 0, .int b]) (h1 := (124, I, J, R)) rfl ?_
  refine ev_call (v1 := (some (.int e))) (h1 := (124, I, J, R)) rfl rfl c2 ?_
  refine ev_br (b1 := false) rfl rfl (xcd_nne (x := e) (y := 0) (by rw [show ((0 : Int32)).toInt = 0 from by decide]; first | exact b2 | omega)) ?_
  refine ev_go 1 (pc1 := 19) (lv1 := [.ref 86, .int a, .int b]) (st1 := [.int (-2)]) (h1 := (124, I, J, R)) rfl ?_
  exact ev_ret rfl rfl
set_option maxRecDepth 20000 in
theorem vj_o {L : Nat} {xs : Nat → Int32} {d : Nat} {I : Nat → Nat → Int32} {J : Nat → Nat → Int64} {R : Nat → Nat → Nat} {a b c e : Int32} (hG : aGd R) (c1 : xEv L xs d 167 0 [.ref 86, .int a] [] (124, I, J, R) (some (.int c)) (124, I, J, R)) (b1 : c.toInt ≠ 0) (c2 : xEv L xs d 160 0 [.int b, .int 0, .int 1] [] (124, I, J, R) (some (.int e)) (124, I, J, R)) (b2 : e.toInt ≠ 0) (b3 : (I 121 0).toInt = 0) : xEv L xs (d + 1) 232 0 [.ref 86, .int a, .int b] [] (124, I, J, R) (some (.int (-1))) (124, I, J, R) := by
  refine ev_go 2 (pc1 := 2) (lv1 := [.ref 86, .int a, .int b]) (st1 := [.int a, .ref 86]) (h1 := (124, I, J, R)) rfl ?_
  refine ev_call (v1 := (some (.int c))) (h1 := (124, I, J, R)) rfl rfl c1 ?_
  refine ev_br (b1 := false) rfl rfl (xcd_neq (x := c) (y := 0) (by rw [show ((0 : Int32)).toInt = 0 from by decide]; first | exact b1 | omega)) ?_
  refine ev_go 3 (pc1 := 11) (lv1 := [.ref 86, .int a, .int b]) (st1 := [.int 1, .int 0, .int b]) (h1 := (124, I, J, R)) rfl ?_
  refine ev_call (v1 := (some (.int e))) (h1 := (124, I, J, R)) rfl rfl c2 ?_
  refine ev_br (b1 := true) rfl rfl (xcd_ne (x := e) (y := 0) (by rw [show ((0 : Int32)).toInt = 0 from by decide]; first | exact b2 | omega)) ?_
  refine ev_go 1 (pc1 := 21) (lv1 := [.ref 86, .int a, .int b]) (st1 := [.ref 86]) (h1 := (124, I, J, R)) rfl ?_
  refine ev_gf (c := 86) (t := 121) (X := R 86 56) rfl rfl (fun _ => rfl) rfl (hG 86 56 121 rfl rfl) ?_
  refine ev_go 2 (pc1 := 26) (lv1 := [.ref 86, .int a, .int b]) (st1 := [.int (I 121 0)]) (h1 := (124, I, J, R)) rfl ?_
  refine ev_br (b1 := false) rfl rfl (xcd_nne (x := (I 121 0)) (y := 0) (by rw [show ((0 : Int32)).toInt = 0 from by decide]; first | exact b3 | omega)) ?_
  refine ev_go 2 (pc1 := 53) (lv1 := [.ref 86, .int a, .int b]) (st1 := [.int (-1)]) (h1 := (124, I, J, R)) rfl ?_
  exact ev_ret rfl rfl
set_option maxRecDepth 20000 in
theorem vj_0 {L : Nat} {xs : Nat → Int32} {d : Nat} {I : Nat → Nat → Int32} {J : Nat → Nat → Int64} {R : Nat → Nat → Nat} {a b c e w : Int32} (hG : aGd R) (c1 : xEv L xs d 167 0 [.ref 86, .int a] [] (124, I, J, R) (some (.int c)) (124, I, J, R)) (b1 : c.toInt ≠ 0) (c2 : xEv L xs d 160 0 [.int b, .int 0, .int 1] [] (124, I, J, R) (some (.int e)) (124, I, J, R)) (b2 : e.toInt ≠ 0) (b3 : (I 121 0).toInt ≠ 0) (b4 : b.toInt = 0) (c3 : xEv L xs d 228 0 [.ref 86, .int a, xmk, xmk] [] (124, I, J, R) (some (.int w)) (124, I, J, R)) : xEv L xs (d + 1) 232 0 [.ref 86, .int a, .int b] [] (124, I, J, R) (some (.int w)) (124, I, J, R) := by
  refine ev_go 2 (pc1 := 2) (lv1 := [.ref 86, .int a, .int b]) (st1 := [.int a, .ref 86]) (h1 := (124, I, J, R)) rfl ?_
  refine ev_call (v1 := (some (.int c))) (h1 := (124, I, J, R)) rfl rfl c1 ?_
  refine ev_br (b1 := false) rfl rfl (xcd_neq (x := c) (y := 0) (by rw [show ((0 : Int32)).toInt = 0 from by decide]; first | exact b1 | omega)) ?_
  refine ev_go 3 (pc1 := 11) (lv1 := [.ref 86, .int a, .int b]) (st1 := [.int 1, .int 0, .int b]) (h1 := (124, I, J, R)) rfl ?_
  refine ev_call (v1 := (some (.int e))) (h1 := (124, I, J, R)) rfl rfl c2 ?_
  refine ev_br (b1 := true) rfl rfl (xcd_ne (x := e) (y := 0) (by rw [show ((0 : Int32)).toInt = 0 from by decide]; first | exact b2 | omega)) ?_
  refine ev_go 1 (pc1 := 21) (lv1 := [.ref 86, .int a, .int b]) (st1 := [.ref 86]) (h1 := (124, I, J, R)) rfl ?_
  refine ev_gf (c := 86) (t := 121) (X := R 86 56) rfl rfl (fun _ => rfl) rfl (hG 86 56 121 rfl rfl) ?_
  refine ev_go 2 (pc1 := 26) (lv1 := [.ref 86, .int a, .int b]) (st1 := [.int (I 121 0)]) (h1 := (124, I, J, R)) rfl ?_
  refine ev_br (b1 := true) rfl rfl (xcd_ne (x := (I 121 0)) (y := 0) (by rw [show ((0 : Int32)).toInt = 0 from by decide]; first | exact b3 | omega)) ?_
  refine ev_go 1 (pc1 := 34) (lv1 := [.ref 86, .int a, .int b]) (st1 := [.int b]) (h1 := (124, I, J, R)) rfl ?_
  refine ev_br (b1 := false) rfl rfl (xcd_nne (x := b) (y := 0) (by rw [show ((0 : Int32)).toInt = 0 from by decide]; first | exact b4 | omega)) ?_
  refine ev_go 2 (pc1 := 39) (lv1 := [.ref 86, .int a, .int b]) (st1 := [.int a, .ref 86]) (h1 := (124, I, J, R)) rfl ?_
  refine ev_call (v1 := (some (.int w))) (h1 := (124, I, J, R)) rfl rfl c3 ?_
  refine ev_go 1 (pc1 := 53) (lv1 := [.ref 86, .int a, .int b]) (st1 := [.int w]) (h1 := (124, I, J, R)) rfl ?_
  exact ev_ret rfl rfl
set_option maxRecDepth 20000 in
theorem vj_1 {L : Nat} {xs : Nat → Int32} {d : Nat} {I : Nat → Nat → Int32} {J : Nat → Nat → Int64} {R : Nat → Nat → Nat} {a b c e : Int32} (hG : aGd R) (c1 : xEv L xs d 167 0 [.ref 86, .int a] [] (124, I, J, R) (some (.int c)) (124, I, J, R)) (b1 : c.toInt ≠ 0) (c2 : xEv L xs d 160 0 [.int b, .int 0, .int 1] [] (124, I, J, R) (some (.int e)) (124, I, J, R)) (b2 : e.toInt ≠ 0) (b3 : (I 121 0).toInt ≠ 0) (b4 : b.toInt ≠ 0) (n1 : 0 ≤ (2 + a).toInt) (m1 : (2 + a).toInt < 100) : xEv L xs (d + 1) 232 0 [.ref 86, .int a, .int b] [] (124, I, J, R) (some (.int (I 121 (2 + a).toNatClampNeg))) (124, I, J, R) := by
  refine ev_go 2 (pc1 := 2) (lv1 := [.ref 86, .int a, .int b]) (st1 := [.int a, .ref 86]) (h1 := (124, I, J, R)) rfl ?_
  refine ev_call (v1 := (some (.int c))) (h1 := (124, I, J, R)) rfl rfl c1 ?_
  refine ev_br (b1 := false) rfl rfl (xcd_neq (x := c) (y := 0) (by rw [show ((0 : Int32)).toInt = 0 from by decide]; first | exact b1 | omega)) ?_
  refine ev_go 3 (pc1 := 11) (lv1 := [.ref 86, .int a, .int b]) (st1 := [.int 1, .int 0, .int b]) (h1 := (124, I, J, R)) rfl ?_
  refine ev_call (v1 := (some (.int e))) (h1 := (124, I, J, R)) rfl rfl c2 ?_
  refine ev_br (b1 := true) rfl rfl (xcd_ne (x := e) (y := 0) (by rw [show ((0 : Int32)).toInt = 0 from by decide]; first | exact b2 | omega)) ?_
  refine ev_go 1 (pc1 := 21) (lv1 := [.ref 86, .int a, .int b]) (st1 := [.ref 86]) (h1 := (124, I, J, R)) rfl ?_
  refine ev_gf (c := 86) (t := 121) (X := R 86 56) rfl rfl (fun _ => rfl) rfl (hG 86 56 121 rfl rfl) ?_
  refine ev_go 2 (pc1 := 26) (lv1 := [.ref 86, .int a, .int b]) (st1 := [.int (I 121 0)]) (h1 := (124, I, J, R)) rfl ?_
  refine ev_br (b1 := true) rfl rfl (xcd_ne (x := (I 121 0)) (y := 0) (by rw [show ((0 : Int32)).toInt = 0 from by decide]; first | exact b3 | omega)) ?_
  refine ev_go 1 (pc1 := 34) (lv1 := [.ref 86, .int a, .int b]) (st1 := [.int b]) (h1 := (124, I, J, R)) rfl ?_
  refine ev_br (b1 := true) rfl rfl (xcd_ne (x := b) (y := 0) (by rw [show ((0 : Int32)).toInt = 0 from by decide]; first | exact b4 | omega)) ?_
  refine ev_go 1 (pc1 := 46) (lv1 := [.ref 86, .int a, .int b]) (st1 := [.ref 86]) (h1 := (124, I, J, R)) rfl ?_
  refine ev_gf (c := 86) (t := 121) (X := R 86 56) rfl rfl (fun _ => rfl) rfl (hG 86 56 121 rfl rfl) ?_
  refine ev_go 3 (pc1 := 52) (lv1 := [.ref 86, .int a, .int b]) (st1 := [.int (2 + a), .ref 121]) (h1 := (124, I, J, R)) rfl ?_
  refine ev_ild (n := 100) rfl rfl (fun _ => rfl) n1 m1 ?_
  exact ev_ret rfl rfl
