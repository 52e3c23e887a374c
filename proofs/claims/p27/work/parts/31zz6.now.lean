/-- there is no run in both, or the same in both -/
def rnG (np nn : Nat) (I Ir : Nat → Nat → Int32) (J Jr : Nat → Nat → Int64) : Prop := (I 66 4 = 0 ∧ Ir 121 0 = 0) ∨ (I 66 4 = 1 ∧ Ir 121 0 = 1 ∧ gR np nn I Ir J Jr)
theorem nowE_3 {L : Nat} {xs : Nat → Int32} {d d' : Nat} {I Ir : Nat → Nat → Int32} {J Jr : Nat → Nat → Int64} {R Rr : Nat → Nat → Nat} (hG : aGd R) (hGr : aGd Rr) (h8 : R 0 8 = 4) {np nm nn : Nat} {l : List (Nat × Nat)} (hV : VR_3 np nm nn l I Ir) (hr : rnG np nn I Ir J Jr) (a b : Int32) : ∃ r : Int32, xEv L xs (d + 3) 133 0 [.ref 0, .int a, .int b] [] (124, I, J, R) (some (.int r)) (124, I, J, R) ∧ xEv L xs (d' + 2) 231 0 [.ref 86, .int a, .int b] [] (124, Ir, Jr, Rr) (some (.int r)) (124, Ir, Jr, Rr) := by
  obtain ⟨⟨p1, p2, p3⟩, p4, p5, p6, ⟨q1, q2⟩, ⟨q3, q4⟩, ⟨q5, q6⟩, q7, q8, q9, ⟨q10, q11⟩, q12, q13, q14, q15, q16, q17⟩ := hV
  have e0 : (0 : Int32).toInt = 0 := by decide
  have e2 : (2 : Int32).toInt = 2 := by decide
  have rb := in_ex (L := L) (xs := xs) (d := d' + 1) (I := Ir) (J := Jr) hGr b 0 2
  rw [e0, e2] at rb
  rcases hn_run_3 (L := L) (xs := xs) (d := d + 2) (I := I) (J := J) hG q5 a with ⟨ha, xa⟩ | ⟨ha, xa⟩
  rotate_left
  · rcases ie_run (L := L) (xs := xs) (d := d') (I := Ir) (J := Jr) hGr q6 a with ⟨g, -⟩ | ⟨-, y⟩
    · exact absurd g ha
    · exact ⟨-2, uq_x_3 hG h8 xa (by decide), vq_x hGr y (by decide)⟩
  have y1 : xEv L xs (d' + 1) 168 0 [.ref 86, .int a] [] (124, Ir, Jr, Rr) (some (.int 1)) (124, Ir, Jr, Rr) := by
    rcases ie_run (L := L) (xs := xs) (d := d') (I := Ir) (J := Jr) hGr q6 a with ⟨-, y⟩ | ⟨g, -⟩
    · exact y
    · exact absurd ha g
  rcases rb with ⟨hb, yb⟩ | ⟨hb, yb⟩
  rotate_left
  · by_cases h : b.toInt < 0
    · exact ⟨-2, uq_l_3 hG h8 xa (by decide) h, vq_y hGr y1 (by decide) yb (by decide)⟩
    · exact ⟨-2, uq_h_3 hG h8 xa (by decide) (by omega) (by omega), vq_y hGr y1 (by decide) yb (by decide)⟩
  rcases hr with ⟨h1, h2⟩ | ⟨h1, h2, hg⟩
  · exact ⟨-1, uq_o_3 hG h8 xa (by decide) (by omega) (by omega) (by rw [h1]; decide), vq_o hGr y1 (by decide) yb (by decide) (by rw [h2]; decide)⟩
  obtain ⟨k, hk⟩ := Int.eq_ofNat_of_zero_le ha.1
  obtain ⟨a1, a2, a3, -⟩ := hg.1 k (by omega)
  have j9 := at9_i (x := 9) (z := 9) (by decide) (by decide) hk (by omega)
  have j13 := at9_i (x := 13) (z := 13) (by decide) (by decide) hk (by omega)
  have j17 := at9_i (x := 17) (z := 17) (by decide) (by decide) hk (by omega)
  have o1 : (I 66 4).toInt ≠ 0 := by rw [h1]; decide
  have o2 : (Ir 121 0).toInt ≠ 0 := by rw [h2]; decide
  by_cases b0 : b.toInt = 0
  · have c := at_k (L := L) (xs := xs) (d := d + 2) (I := I) (J := J) (R := R) (c := 67) (m := 4) (fun _ => rfl) (by decide) hk (by omega)
    have z := vq_0 hGr y1 (by decide) yb (by decide) o2 b0 j9.1 j9.2.1
    rw [j9.2.2, ← a1] at z
    exact ⟨_, uq_0_3 hG h8 xa (by decide) hb.1 hb.2 o1 b0 c, z⟩
  by_cases b1 : b.toInt = 1
  · have c := at_k (L := L) (xs := xs) (d := d + 2) (I := I) (J := J) (R := R) (c := 68) (m := 4) (fun _ => rfl) (by decide) hk (by omega)
    have z := vq_1 hGr y1 (by decide) yb (by decide) o2 b0 b1 j13.1 j13.2.1
    rw [j13.2.2, ← a2] at z
    exact ⟨_, uq_1_3 hG h8 xa (by decide) hb.1 hb.2 o1 b1 c, z⟩
  · have c := at_k (L := L) (xs := xs) (d := d + 2) (I := I) (J := J) (R := R) (c := 69) (m := 4) (fun _ => rfl) (by decide) hk (by omega)
    have z := vq_2 hGr y1 (by decide) yb (by decide) o2 b0 b1 j17.1 j17.2.1
    rw [j17.2.2, ← a3] at z
    exact ⟨_, uq_2_3 hG h8 xa (by decide) hb.1 hb.2 o1 ⟨b0, b1⟩ c, z⟩
theorem headE_3 {L : Nat} {xs : Nat → Int32} {d d' : Nat} {I Ir : Nat → Nat → Int32} {J Jr : Nat → Nat → Int64} {R Rr : Nat → Nat → Nat} (hG : aGd R) (hGr : aGd Rr) (h8 : R 0 8 = 4) {np nm nn : Nat} {l : List (Nat × Nat)} (hV : VR_3 np nm nn l I Ir) (hr : rnG np nn I Ir J Jr) (a b : Int32) : ∃ r : Int32, xEv L xs (d + 3) 134 0 [.ref 0, .int a, .int b] [] (124, I, J, R) (some (.int r)) (124, I, J, R) ∧ xEv L xs (d' + 2) 232 0 [.ref 86, .int a, .int b] [] (124, Ir, Jr, Rr) (some (.int r)) (124, Ir, Jr, Rr) := by
  obtain ⟨⟨p1, p2, p3⟩, p4, p5, p6, ⟨q1, q2⟩, ⟨q3, q4⟩, ⟨q5, q6⟩, q7, q8, q9, ⟨q10, q11⟩, q12, q13, q14, q15, q16, q17⟩ := hV
  have e0 : (0 : Int32).toInt = 0 := by decide
  have e1 : (1 : Int32).toInt = 1 := by decide
  have rb := in_ex (L := L) (xs := xs) (d := d' + 1) (I := Ir) (J := Jr) hGr b 0 1
  rw [e0, e1] at rb
  rcases hp_run_3 (L := L) (xs := xs) (d := d + 2) (I := I) (J := J) hG q1 a with ⟨ha, xa⟩ | ⟨ha, xa⟩
  rotate_left
  · rcases ip_run (L := L) (xs := xs) (d := d') (I := Ir) (J := Jr) hGr q2 a with ⟨g, -⟩ | ⟨-, y⟩
    · exact absurd g ha
    · exact ⟨-2, uj_x_3 hG h8 xa (by decide), vj_x hGr y (by decide)⟩
  have y1 : xEv L xs (d' + 1) 167 0 [.ref 86, .int a] [] (124, Ir, Jr, Rr) (some (.int 1)) (124, Ir, Jr, Rr) := by
    rcases ip_run (L := L) (xs := xs) (d := d') (I := Ir) (J := Jr) hGr q2 a with ⟨-, y⟩ | ⟨g, -⟩
    · exact y
    · exact absurd ha g
  rcases rb with ⟨hb, yb⟩ | ⟨hb, yb⟩
  rotate_left
  · by_cases h : b.toInt < 0
    · exact ⟨-2, uj_l_3 hG h8 xa (by decide) h, vj_y hGr y1 (by decide) yb (by decide)⟩
    · exact ⟨-2, uj_h_3 hG h8 xa (by decide) (by omega) (by omega), vj_y hGr y1 (by decide) yb (by decide)⟩
  rcases hr with ⟨h1, h2⟩ | ⟨h1, h2, hg⟩
  · exact ⟨-1, uj_o_3 hG h8 xa (by decide) (by omega) (by omega) (by rw [h1]; decide), vj_o hGr y1 (by decide) yb (by decide) (by rw [h2]; decide)⟩
  obtain ⟨k, hk⟩ := Int.eq_ofNat_of_zero_le ha.1
  have j2 := at9_i (x := 2) (z := 2) (by decide) (by decide) hk (by omega)
  have o1 : (I 66 4).toInt ≠ 0 := by rw [h1]; decide
  have o2 : (Ir 121 0).toInt ≠ 0 := by rw [h2]; decide
  by_cases b0 : b.toInt = 0
  · have c2 := gp_run (L := L) (xs := xs) (d := d + 1) (I := I) (J := J) (R := R) hG a
    obtain ⟨w, c3, hw⟩ := gb_run (L := L) (xs := xs) (d := d + 2) (I := I) (J := J) (R := R) hG (I 67) a
    obtain ⟨w', y3, hw'⟩ := gn_run (L := L) (xs := xs) (d := d' + 1) (I := Ir) (J := Jr) (R := Rr) hGr q6 p3 a
    obtain ⟨-, nw⟩ := gR_now hg p3 (q := a) ha.1
    have ew : w' = w := Int32.toInt_inj.mp (by rw [hw, hw', nw])
    rw [ew] at y3
    exact ⟨w, uj_0_3 hG h8 xa (by decide) hb.1 hb.2 o1 b0 c2 c3, vj_0 hGr y1 (by decide) yb (by decide) o2 b0 y3⟩
  · have z := vj_1 hGr y1 (by decide) yb (by decide) o2 b0 j2.1 j2.2.1
    have lv := hg.2.2.1 k (by omega)
    rw [j2.2.2, lv, ← tb_shr (x := I 66 6) hk (by omega)] at z
    exact ⟨_, uj_1_3 hG h8 xa (by decide) hb.1 hb.2 o1 b0, z⟩
theorem nowE_23 {L : Nat} {xs : Nat → Int32} {d d' : Nat} {I Ir : Nat → Nat → Int32} {J Jr : Nat → Nat → Int64} {R Rr : Nat → Nat → Nat} (hG : aGd R) (hGr : aGd Rr) (h8 : R 0 8 = 24) {np nm nn : Nat} {l : List (Nat × Nat)} (hV : VR_23 np nm nn l I Ir) (hr : rnG np nn I Ir J Jr) (a b : Int32) : ∃ r : Int32, xEv L xs (d + 3) 133 0 [.ref 0, .int a, .int b] [] (124, I, J, R) (some (.int r)) (124, I, J, R) ∧ xEv L xs (d' + 2) 231 0 [.ref 86, .int a, .int b] [] (124, Ir, Jr, Rr) (some (.int r)) (124, Ir, Jr, Rr) := by
  obtain ⟨⟨p1, p2, p3⟩, p4, p5, p6, ⟨q1, q2⟩, ⟨q3, q4⟩, ⟨q5, q6⟩, q7, q8, q9, ⟨q10, q11⟩, q12, q13, q14, q15, q16, q17⟩ := hV
  have e0 : (0 : Int32).toInt = 0 := by decide
  have e2 : (2 : Int32).toInt = 2 := by decide
  have rb := in_ex (L := L) (xs := xs) (d := d' + 1) (I := Ir) (J := Jr) hGr b 0 2
  rw [e0, e2] at rb
  rcases hn_run_23 (L := L) (xs := xs) (d := d + 2) (I := I) (J := J) hG q5 a with ⟨ha, xa⟩ | ⟨ha, xa⟩
  rotate_left
  · rcases ie_run (L := L) (xs := xs) (d := d') (I := Ir) (J := Jr) hGr q6 a with ⟨g, -⟩ | ⟨-, y⟩
    · exact absurd g ha
    · exact ⟨-2, uq_x_23 hG h8 xa (by decide), vq_x hGr y (by decide)⟩
  have y1 : xEv L xs (d' + 1) 168 0 [.ref 86, .int a] [] (124, Ir, Jr, Rr) (some (.int 1)) (124, Ir, Jr, Rr) := by
    rcases ie_run (L := L) (xs := xs) (d := d') (I := Ir) (J := Jr) hGr q6 a with ⟨-, y⟩ | ⟨g, -⟩
    · exact y
    · exact absurd ha g
  rcases rb with ⟨hb, yb⟩ | ⟨hb, yb⟩
  rotate_left
  · by_cases h : b.toInt < 0
    · exact ⟨-2, uq_l_23 hG h8 xa (by decide) h, vq_y hGr y1 (by decide) yb (by decide)⟩
    · exact ⟨-2, uq_h_23 hG h8 xa (by decide) (by omega) (by omega), vq_y hGr y1 (by decide) yb (by decide)⟩
  rcases hr with ⟨h1, h2⟩ | ⟨h1, h2, hg⟩
  · exact ⟨-1, uq_o_23 hG h8 xa (by decide) (by omega) (by omega) (by rw [h1]; decide), vq_o hGr y1 (by decide) yb (by decide) (by rw [h2]; decide)⟩
  obtain ⟨k, hk⟩ := Int.eq_ofNat_of_zero_le ha.1
  obtain ⟨a1, a2, a3, -⟩ := hg.1 k (by omega)
  have j9 := at9_i (x := 9) (z := 9) (by decide) (by decide) hk (by omega)
  have j13 := at9_i (x := 13) (z := 13) (by decide) (by decide) hk (by omega)
  have j17 := at9_i (x := 17) (z := 17) (by decide) (by decide) hk (by omega)
  have o1 : (I 66 4).toInt ≠ 0 := by rw [h1]; decide
  have o2 : (Ir 121 0).toInt ≠ 0 := by rw [h2]; decide
  by_cases b0 : b.toInt = 0
  · have c := at_k (L := L) (xs := xs) (d := d + 2) (I := I) (J := J) (R := R) (c := 67) (m := 4) (fun _ => rfl) (by decide) hk (by omega)
    have z := vq_0 hGr y1 (by decide) yb (by decide) o2 b0 j9.1 j9.2.1
    rw [j9.2.2, ← a1] at z
    exact ⟨_, uq_0_23 hG h8 xa (by decide) hb.1 hb.2 o1 b0 c, z⟩
  by_cases b1 : b.toInt = 1
  · have c := at_k (L := L) (xs := xs) (d := d + 2) (I := I) (J := J) (R := R) (c := 68) (m := 4) (fun _ => rfl) (by decide) hk (by omega)
    have z := vq_1 hGr y1 (by decide) yb (by decide) o2 b0 b1 j13.1 j13.2.1
    rw [j13.2.2, ← a2] at z
    exact ⟨_, uq_1_23 hG h8 xa (by decide) hb.1 hb.2 o1 b1 c, z⟩
  · have c := at_k (L := L) (xs := xs) (d := d + 2) (I := I) (J := J) (R := R) (c := 69) (m := 4) (fun _ => rfl) (by decide) hk (by omega)
    have z := vq_2 hGr y1 (by decide) yb (by decide) o2 b0 b1 j17.1 j17.2.1
    rw [j17.2.2, ← a3] at z
    exact ⟨_, uq_2_23 hG h8 xa (by decide) hb.1 hb.2 o1 ⟨b0, b1⟩ c, z⟩
theorem headE_23 {L : Nat} {xs : Nat → Int32} {d d' : Nat} {I Ir : Nat → Nat → Int32} {J Jr : Nat → Nat → Int64} {R Rr : Nat → Nat → Nat} (hG : aGd R) (hGr : aGd Rr) (h8 : R 0 8 = 24) {np nm nn : Nat} {l : List (Nat × Nat)} (hV : VR_23 np nm nn l I Ir) (hr : rnG np nn I Ir J Jr) (a b : Int32) : ∃ r : Int32, xEv L xs (d + 3) 134 0 [.ref 0, .int a, .int b] [] (124, I, J, R) (some (.int r)) (124, I, J, R) ∧ xEv L xs (d' + 2) 232 0 [.ref 86, .int a, .int b] [] (124, Ir, Jr, Rr) (some (.int r)) (124, Ir, Jr, Rr) := by
  obtain ⟨⟨p1, p2, p3⟩, p4, p5, p6, ⟨q1, q2⟩, ⟨q3, q4⟩, ⟨q5, q6⟩, q7, q8, q9, ⟨q10, q11⟩, q12, q13, q14, q15, q16, q17⟩ := hV
  have e0 : (0 : Int32).toInt = 0 := by decide
  have e1 : (1 : Int32).toInt = 1 := by decide
  have rb := in_ex (L := L) (xs := xs) (d := d' + 1) (I := Ir) (J := Jr) hGr b 0 1
  rw [e0, e1] at rb
  rcases hp_run_23 (L := L) (xs := xs) (d := d + 2) (I := I) (J := J) hG q1 a with ⟨ha, xa⟩ | ⟨ha, xa⟩
  rotate_left
  · rcases ip_run (L := L) (xs := xs) (d := d') (I := Ir) (J := Jr) hGr q2 a with ⟨g, -⟩ | ⟨-, y⟩
    · exact absurd g ha
    · exact ⟨-2, uj_x_23 hG h8 xa (by decide), vj_x hGr y (by decide)⟩
  have y1 : xEv L xs (d' + 1) 167 0 [.ref 86, .int a] [] (124, Ir, Jr, Rr) (some (.int 1)) (124, Ir, Jr, Rr) := by
    rcases ip_run (L := L) (xs := xs) (d := d') (I := Ir) (J := Jr) hGr q2 a with ⟨-, y⟩ | ⟨g, -⟩
    · exact y
    · exact absurd ha g
  rcases rb with ⟨hb, yb⟩ | ⟨hb, yb⟩
  rotate_left
  · by_cases h : b.toInt < 0
    · exact ⟨-2, uj_l_23 hG h8 xa (by decide) h, vj_y hGr y1 (by decide) yb (by decide)⟩
    · exact ⟨-2, uj_h_23 hG h8 xa (by decide) (by omega) (by omega), vj_y hGr y1 (by decide) yb (by decide)⟩
  rcases hr with ⟨h1, h2⟩ | ⟨h1, h2, hg⟩
  · exact ⟨-1, uj_o_23 hG h8 xa (by decide) (by omega) (by omega) (by rw [h1]; decide), vj_o hGr y1 (by decide) yb (by decide) (by rw [h2]; decide)⟩
  obtain ⟨k, hk⟩ := Int.eq_ofNat_of_zero_le ha.1
  have j2 := at9_i (x := 2) (z := 2) (by decide) (by decide) hk (by omega)
  have o1 : (I 66 4).toInt ≠ 0 := by rw [h1]; decide
  have o2 : (Ir 121 0).toInt ≠ 0 := by rw [h2]; decide
  by_cases b0 : b.toInt = 0
  · have c2 := gp_run (L := L) (xs := xs) (d := d + 1) (I := I) (J := J) (R := R) hG a
    obtain ⟨w, c3, hw⟩ := gb_run (L := L) (xs := xs) (d := d + 2) (I := I) (J := J) (R := R) hG (I 67) a
    obtain ⟨w', y3, hw'⟩ := gn_run (L := L) (xs := xs) (d := d' + 1) (I := Ir) (J := Jr) (R := Rr) hGr q6 p3 a
    obtain ⟨-, nw⟩ := gR_now hg p3 (q := a) ha.1
    have ew : w' = w := Int32.toInt_inj.mp (by rw [hw, hw', nw])
    rw [ew] at y3
    exact ⟨w, uj_0_23 hG h8 xa (by decide) hb.1 hb.2 o1 b0 c2 c3, vj_0 hGr y1 (by decide) yb (by decide) o2 b0 y3⟩
  · have z := vj_1 hGr y1 (by decide) yb (by decide) o2 b0 j2.1 j2.2.1
    have lv := hg.2.2.1 k (by omega)
    rw [j2.2.2, lv, ← tb_shr (x := I 66 6) hk (by omega)] at z
    exact ⟨_, uj_1_23 hG h8 xa (by decide) hb.1 hb.2 o1 b0, z⟩
