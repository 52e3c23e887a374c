/-- one time passes, of both -/
theorem tim1_3 {L : Nat} {xs : Nat → Int32} {d d' : Nat} {I Ir : Nat → Nat → Int32} {J Jr : Nat → Nat → Int64} {R Rr : Nat → Nat → Nat} (hG : aGd R) (hGr : aGd Rr) {np nm nn : Nat} {l : List (Nat × Nat)} (hE : gE_3 np nm nn l I Ir J Jr) (hh : hrS nm l Ir) {t : Int32} {tN : Nat} (h5 : I 66 5 = t) (h1 : Ir 121 1 = t) (ht : t.toInt = tN) (tl : tN < l.length) :
    ∃ (I1 Ir1 : Nat → Nat → Int32) (J1 Jr1 : Nat → Nat → Int64), xEv L xs (d + 6) 123 0 [.ref 63, .ref 3, xmk, xmk, xmk, xmk, xmk] [] (124, I, J, R) none (124, I1, J1, R) ∧ xEv L xs (d' + 4) 224 0 [.ref 86, xmk, xmk, xmk, xmk, xmk, xmk] [] (124, Ir, Jr, Rr) none (124, Ir1, Jr1, Rr) ∧ gE_3 np nm nn l I1 Ir1 J1 Jr1 ∧ goF I I1 Ir Ir1 J J1 Jr Jr1 ∧ I1 66 5 = t + 1 ∧ Ir1 121 1 = t + 1 := by
  have hE0 := hE
  obtain ⟨hV, hch, hK, hg⟩ := hE
  have hV0 := hV
  obtain ⟨⟨p1, p2, p3⟩, p4, p5, p6, ⟨q1, q2⟩, ⟨q3, q4⟩, ⟨q5, q6⟩, q7, q8, q9, ⟨q10, q11⟩, q12, q13, q14, q15, q16, q17⟩ := hV
  obtain ⟨g1, g2, g3, g4, g5, g6⟩ := hg
  obtain ⟨m, hm, -, e1, e2, e3, e4, b1, b2, b3, b4, b5⟩ := tmz_3 hV0 (t := tN) tl
  obtain ⟨aN, ha⟩ := Int.eq_ofNat_of_zero_le b1
  obtain ⟨bN, hb⟩ := Int.eq_ofNat_of_zero_le b3
  have an : aN < np := by omega
  have bn : bN < np := by omega
  have ec := clamp_s (i := t) (by omega)
  have ekt : t.toNatClampNeg = tN := by omega
  have ecm := clamp_s (i := Ir 101 tN) (by omega)
  have ekm : (Ir 101 tN).toNatClampNeg = m := by omega
  have m1 := oA (L := L) (xs := xs) (d := d' + 3) (I := Ir) (J := Jr) (t := t) hGr (by omega) (by omega) (by rw [ekt]; omega) (by rw [ekt]; omega)
  have m2 := tA (L := L) (xs := xs) (d := d' + 3) (I := Ir) (J := Jr) (t := t) hGr (by omega) (by omega) (by rw [ekt]; omega) (by rw [ekt]; omega)
  rw [ekt, ekm] at m1 m2
  obtain ⟨w, S, y1, y2, s0, s1⟩ := dw_10 (L := L) (xs := xs) (d := d + 5) (d' := d' + 3) (I := I) (Ir := Ir) (J := J) (Jr := Jr) hG hGr g5 g6 g4
  have gS : gR np nn I Ir (uL J 66 7 S) (uL Jr 122 0 S) := ⟨g1, g2, g3, by rw [uL_s, uL_s], by rw [uL_s]; exact s0, by rw [uL_s]; exact s1⟩
  have hES : gE_3 np nm nn l I Ir (uL J 66 7 S) (uL Jr 122 0 S) := ⟨hV0, hch, hK, gS⟩
  obtain ⟨JS, hJS⟩ : ∃ x, uL J 66 7 S = x := ⟨_, rfl⟩
  obtain ⟨JrS, hJrS⟩ : ∃ x, uL Jr 122 0 S = x := ⟨_, rfl⟩
  have fS : goF I I Ir Ir J JS Jr JrS := by rw [← hJS, ← hJrS]; exact goF_l S
  rw [hJS, hJrS] at gS hES
  rw [hJS] at y1
  rw [hJrS] at y2
  have cC := at_k (L := L) (xs := xs) (d := d + 5) (I := I) (J := JS) (R := R) (c := 22) (m := 64) (fun _ => rfl) (by decide) ht (by omega)
  have cA := at_k (L := L) (xs := xs) (d := d + 5) (I := I) (J := JS) (R := R) (c := 20) (m := 64) (fun _ => rfl) (by decide) ht (by omega)
  have cB := at_k (L := L) (xs := xs) (d := d + 5) (I := I) (J := JS) (R := R) (c := 21) (m := 64) (fun _ => rfl) (by decide) ht (by omega)
  rw [e4, ← h5] at cC
  rw [e2, ← h5] at cA
  rw [e3, ← h5] at cB
  -- the end of a time, of both
  have fin : ∀ (I2 Ir2 : Nat → Nat → Int32) (J2 Jr2 : Nat → Nat → Int64), gE_3 np nm nn l I2 Ir2 J2 Jr2 → goF I I2 Ir Ir2 J J2 Jr Jr2 → Ir2 121 1 = t → ∃ (I1 Ir1 : Nat → Nat → Int32) (J1 Jr1 : Nat → Nat → Int64), (∀ w3 w4 w5 w6 : Value, xEv L xs (d + 6) 123 97 [.ref 63, .ref 3, .int t, w3, w4, w5, w6] [] (124, I2, J2, R) none (124, I1, J1, R)) ∧ (∀ w2 w3 w4 w5 w6 : Value, xEv L xs (d' + 4) 224 107 [.ref 86, .int t, w2, w3, w4, w5, w6] [] (124, Ir2, Jr2, Rr) none (124, Ir1, Jr1, Rr)) ∧ gE_3 np nm nn l I1 Ir1 J1 Jr1 ∧ goF I I1 Ir Ir1 J J1 Jr Jr1 ∧ I1 66 5 = t + 1 ∧ Ir1 121 1 = t + 1 := by
    intro I2 Ir2 J2 Jr2 k1 k2 k3
    have k4 : gR np nn (uI I2 66 5 (t + 1)) (uI Ir2 121 1 (t + 1)) J2 Jr2 := by
      obtain ⟨w1, w2, w3, w4⟩ := k1.2.2.2
      refine ⟨fun n hn => ?_, fun n z1 z2 => ?_, fun i hi => ?_, w4⟩
      · rw [uI_c I2 n (t + 1) (by decide : (67 : Nat) ≠ 66), uI_c I2 n (t + 1) (by decide : (68 : Nat) ≠ 66), uI_c I2 n (t + 1) (by decide : (69 : Nat) ≠ 66), uI_c I2 n (t + 1) (by decide : (70 : Nat) ≠ 66), uI_n Ir2 (t + 1) (by omega : ¬ (121 = 121 ∧ 9 + n = 1)), uI_n Ir2 (t + 1) (by omega : ¬ (121 = 121 ∧ 13 + n = 1)), uI_n Ir2 (t + 1) (by omega : ¬ (121 = 121 ∧ 17 + n = 1)), uI_n Ir2 (t + 1) (by omega : ¬ (121 = 121 ∧ 21 + n = 1))]
        exact w1 n hn
      · rw [uI_c I2 n (t + 1) (by decide : (67 : Nat) ≠ 66)]
        exact w2 n z1 z2
      · rw [uI_n I2 (t + 1) (by omega : ¬ (66 = 66 ∧ 6 = 5)), uI_n Ir2 (t + 1) (by omega : ¬ (121 = 121 ∧ 2 + i = 1))]
        exact w3 i hi
    have k5 : goF I (uI I2 66 5 (t + 1)) Ir (uI Ir2 121 1 (t + 1)) J J2 Jr Jr2 := goF_t k2 (goF_n _ _)
    have k6 := gE_u_3 hE0 k5 k4
    have x26 : Ir2 86 26 = Ir 86 26 := k2.2.2.1 86 26 (by omega) (by omega)
    have x102 : ∀ k, Ir2 102 k = Ir 102 k := fun k => k2.2.2.1 102 k (by omega) (by omega)
    obtain ⟨z, z1, z2⟩ := lst_3 (L := L) (xs := xs) (d := d + 5) (J := J2) (R := R) hG k6.1 (hrS_e hh (fun k => k5.2.2.1 94 k (by omega) (by omega))) ht tl
    have et1 : (t + 1).toInt = (tN + 1 : Nat) := by rw [i_add1 (by omega)]; omega
    have ec1 := clamp_s (i := t + 1) (by omega)
    have ek1 : (t + 1).toNatClampNeg = tN + 1 := by omega
    have y102 : ∀ k, (uI Ir2 121 1 (t + 1)) 102 k = Ir2 102 k := fun k => uI_c Ir2 k (t + 1) (by decide)
    rw [y102, y102] at z2
    have lk : ∀ i, i < l.length → 0 ≤ (Ir2 102 i).toInt := fun i hi => by
      obtain ⟨⟨a, b⟩, hab⟩ : ∃ x, l[i]? = some x := ⟨_, List.getElem?_eq_getElem hi⟩
      have := (q12 i a b hab).2.1
      rw [x102]
      omega
    have e24 : (24 : Int32).toInt = 24 := by decide
    have dv : ∀ i, i < l.length → ((Ir2 102 i) / 24).toInt = (Ir2 102 i).toInt / 24 := fun i hi => by
      rw [i_div (lk i hi) (by omega), e24]
    have nxt : (uI Ir2 121 1 (Ir2 121 1 + 1)) = uI Ir2 121 1 (t + 1) := by rw [k3]
    rcases z2 with ⟨z0, z2⟩ | ⟨z0, z2, z3⟩
    · -- a night
      obtain ⟨I1, Ir1, J1, Jr1, n1, n2, n3, n4, n5, n6, n7⟩ := ngt_3 (L := L) (xs := xs) (d := d + 3) (d' := d' + 2) hG hGr np 0 0 xmk (uI I2 66 5 (t + 1)) (uI Ir2 121 1 (t + 1)) J2 Jr2 (by omega) (by decide) k6
      have n8 := vn_s hGr n2
      refine ⟨I1, Ir1, J1, Jr1, fun w3 w4 w5 w6 => up_n_3 hG z1 (by rw [z0]; decide) (un_s_3 hG n1), fun w2 w3 w4 w5 w6 => ?_, n3, goF_t k5 ⟨fun c k _ h2 h3 => n4 c k (by omega) (by omega), fun c k _ h2 => n6 c k h2, fun c k _ h2 => n5 c k (by omega), fun c k _ h2 => n7 c k h2⟩, by rw [n4 66 5 (by omega) (by omega), uI_s], by rw [n5 121 1 (by omega), uI_s]⟩
      rcases z2 with z2 | ⟨z2, z3⟩
      · exact vh_l hGr (by rw [x26]; omega) (by rw [nxt]; exact n8)
      · exact vh_n hGr (by rw [x26]; omega) (by omega) (by omega) (by omega) (by omega) (by rw [ek1, ekt, dv _ z2, dv _ tl]; exact z3) (by rw [nxt]; exact n8)
    · refine ⟨_, _, J2, Jr2, fun w3 w4 w5 w6 => up_e_3 hG z1 (by rw [z0]; decide), fun w2 w3 w4 w5 w6 => ?_, k6, k5, uI_s _ _ _ _, uI_s _ _ _ _⟩
      have := vh_e (L := L) (xs := xs) (d := d' + 4) (I := Ir2) (J := Jr2) (R := Rr) (t := t) (w2 := w2) (w3 := w3) (w4 := w4) (w5 := w5) (w6 := w6) hGr (by rw [x26]; omega) (by omega) (by omega) (by omega) (by omega) (by rw [ek1, ekt, dv _ z2, dv _ tl]; exact z3)
      rw [nxt] at this
      exact this
  have ka := at9_i (x := 2) (z := 2) (by decide) (by decide) ha (by omega)
  have kb := at9_i (x := 2) (z := 2) (by decide) (by decide) hb (by omega)
  have lva := g3 aN an
  have lvb := g3 bN bn
  have hch2 : (Ir 101 (Ir 121 1).toNatClampNeg).toNatClampNeg = m := by rw [h1, ekt]; exact ekm
  have o1 : 0 ≤ (Ir 121 1).toInt := by rw [h1]; omega
  have o2 : (Ir 121 1).toInt < 64 := by rw [h1]; omega
  have o3 : 0 ≤ (Ir 101 (Ir 121 1).toNatClampNeg).toInt := by rw [h1, ekt]; omega
  have o4 : (Ir 101 (Ir 121 1).toNatClampNeg).toInt < 32 := by rw [h1, ekt]; omega
  rw [← h1] at m1 m2
  by_cases hc : w.toInt < (Ir 95 m).toInt
  rotate_left
  · obtain ⟨I1, Ir1, J1, Jr1, f1, f2, f3⟩ := fin I Ir JS JrS hES fS h1
    exact ⟨I1, Ir1, J1, Jr1, up_a_3 hG y1 cC (by omega) (by rw [h5]; exact f1 _ _ _ _), vg_0 hGr m1 m2 y2 o1 o2 o3 o4 (by rw [hch2]; omega) (by rw [h1]; exact f2 _ _ _ _ _), f3⟩
  have cX := gp_run (L := L) (xs := xs) (d := d + 4) (I := I) (J := JS) (R := R) hG (Ir 92 m)
  have cY := gp_run (L := L) (xs := xs) (d := d + 4) (I := I) (J := JS) (R := R) hG (Ir 93 m)
  by_cases hd : tb (I 66 6) aN = true ∧ tb (I 66 6) bN = true
  rotate_left
  · obtain ⟨I1, Ir1, J1, Jr1, f1, f2, f3⟩ := fin I Ir JS JrS hES fS h1
    have t1 := teld_3 (L := L) (xs := xs) (d := d + 2) (J := JS) (R := R) hG hV0 (had := pcF (I 67) (Ir 92 m) 4) ha an hb bn hd
    have t2 := teld_3 (L := L) (xs := xs) (d := d + 2) (J := JS) (R := R) hG hV0 (had := pcF (I 67) (Ir 93 m) 4) hb bn ha an (fun e => hd ⟨e.2, e.1⟩)
    refine ⟨I1, Ir1, J1, Jr1, up_b_3 hG y1 cC hc cA cB cX cY t1 t2 (by rw [h5]; exact f1 _ _ _ _), ?_, f3⟩
    cases ha1 : tb (I 66 6) aN with
    | false =>
      rw [ha1] at lva
      exact vg_1 hGr m1 m2 y2 o1 o2 o3 o4 (by rw [hch2]; exact hc) ka.1 ka.2.1 (by rw [ka.2.2, lva]; decide) (by rw [h1]; exact f2 _ _ _ _ _)
    | true =>
      cases hb1 : tb (I 66 6) bN with
      | true => exact absurd ⟨ha1, hb1⟩ hd
      | false =>
        rw [ha1] at lva
        rw [hb1] at lvb
        exact vg_2 hGr m1 m2 y2 o1 o2 o3 o4 (by rw [hch2]; exact hc) ka.1 ka.2.1 (by rw [ka.2.2, lva]; decide) kb.1 kb.2.1 (by rw [kb.2.2, lvb]; decide) (by rw [h1]; exact f2 _ _ _ _ _)
  obtain ⟨ha1, hb1⟩ := hd
  rw [ha1] at lva
  rw [hb1] at lvb
  obtain ⟨nX, -⟩ := gR_now gS p3 (q := Ir 92 m) b1
  obtain ⟨nY, -⟩ := gR_now gS p3 (q := Ir 93 m) b3
  have rX := gh_run (L := L) (xs := xs) (d := d' + 3) (I := Ir) (J := JrS) (R := Rr) hGr q6 p3 (Ir 92 m)
  have rY := gh_run (L := L) (xs := xs) (d := d' + 3) (I := Ir) (J := JrS) (R := Rr) hGr q6 p3 (Ir 93 m)
  rw [← nX] at rX
  rw [← nY] at rY
  have bX := pcF_tb (f := I 67) (q := Ir 92 m) 4 (by decide)
  have bY := pcF_tb (f := I 67) (q := Ir 93 m) 4 (by decide)
  obtain ⟨I1, Ir1, J1, Jr1, u1, u2, u3, u4, u5⟩ := tel_3 (L := L) (xs := xs) (d := d) (d' := d') hG hGr (had := pcF (I 67) (Ir 92 m) 4) ha an hb bn ht tl nn 0 0 xmk I Ir JS JrS (by omega) (by decide) hES h5 ha1 hb1 (fun k _ h2 h3 => by
    rw [bX k] at h3
    exact of_decide_eq_true (Bool.and_eq_true_iff.mp h3).2)
  have v5 : I1 66 5 = t := (u4.1 66 5 (by omega) (by omega)).trans h5
  have v6 : I1 66 6 = I 66 6 := u4.1 66 6 (by omega) (by omega)
  obtain ⟨I2, Ir2, J2, Jr2, w1, w2, w3, w4, w5⟩ := tel_3 (L := L) (xs := xs) (d := d) (d' := d') hG hGr (had := pcF (I 67) (Ir 93 m) 4) hb bn ha an ht tl nn 0 0 xmk I1 Ir1 J1 Jr1 (by omega) (by decide) u3 v5 (by rw [v6]; exact hb1) (by rw [v6]; exact ha1) (fun k _ h2 h3 => by
    rw [bY k] at h3
    have e : I 67 k = Ir 93 m := of_decide_eq_true (Bool.and_eq_true_iff.mp h3).2
    rw [u5 k (by omega) (by rw [bX k, e, decide_eq_false (show ¬ (Ir 93 m = Ir 92 m) from fun z => b5 (by rw [z])), Bool.and_false])]
    exact e)
  obtain ⟨I3, Ir3, J3, Jr3, f1, f2, f3⟩ := fin I2 Ir2 J2 Jr2 w3 (goF_t fS (goF_g (tlG_t u4 w4))) (((tlG_t u4 w4).2.2.1 121 1 (by omega) (by omega)).trans h1)
  exact ⟨I3, Ir3, J3, Jr3, up_b_3 hG y1 cC hc cA cB cX cY (utl_s_3 hG u1) (utl_s_3 hG w1) (by rw [h5]; exact f1 _ _ _ _), vg_3 hGr m1 m2 y2 o1 o2 o3 o4 (by rw [hch2]; exact hc) ka.1 ka.2.1 (by rw [ka.2.2, lva]; decide) kb.1 kb.2.1 (by rw [kb.2.2, lvb]; decide) rX rY (by rw [h1]; exact vt_s hGr u2) (by rw [h1]; exact vt_s hGr w2) (by rw [h1]; exact f2 _ _ _ _ _), f3⟩
/-- one time passes, of both -/
theorem tim1_23 {L : Nat} {xs : Nat → Int32} {d d' : Nat} {I Ir : Nat → Nat → Int32} {J Jr : Nat → Nat → Int64} {R Rr : Nat → Nat → Nat} (hG : aGd R) (hGr : aGd Rr) {np nm nn : Nat} {l : List (Nat × Nat)} (hE : gE_23 np nm nn l I Ir J Jr) (hh : hrS nm l Ir) {t : Int32} {tN : Nat} (h5 : I 66 5 = t) (h1 : Ir 121 1 = t) (ht : t.toInt = tN) (tl : tN < l.length) :
    ∃ (I1 Ir1 : Nat → Nat → Int32) (J1 Jr1 : Nat → Nat → Int64), xEv L xs (d + 6) 123 0 [.ref 63, .ref 23, xmk, xmk, xmk, xmk, xmk] [] (124, I, J, R) none (124, I1, J1, R) ∧ xEv L xs (d' + 4) 224 0 [.ref 86, xmk, xmk, xmk, xmk, xmk, xmk] [] (124, Ir, Jr, Rr) none (124, Ir1, Jr1, Rr) ∧ gE_23 np nm nn l I1 Ir1 J1 Jr1 ∧ goF I I1 Ir Ir1 J J1 Jr Jr1 ∧ I1 66 5 = t + 1 ∧ Ir1 121 1 = t + 1 := by
  have hE0 := hE
  obtain ⟨hV, hch, hK, hg⟩ := hE
  have hV0 := hV
  obtain ⟨⟨p1, p2, p3⟩, p4, p5, p6, ⟨q1, q2⟩, ⟨q3, q4⟩, ⟨q5, q6⟩, q7, q8, q9, ⟨q10, q11⟩, q12, q13, q14, q15, q16, q17⟩ := hV
  obtain ⟨g1, g2, g3, g4, g5, g6⟩ := hg
  obtain ⟨m, hm, -, e1, e2, e3, e4, b1, b2, b3, b4, b5⟩ := tmz_23 hV0 (t := tN) tl
  obtain ⟨aN, ha⟩ := Int.eq_ofNat_of_zero_le b1
  obtain ⟨bN, hb⟩ := Int.eq_ofNat_of_zero_le b3
  have an : aN < np := by omega
  have bn : bN < np := by omega
  have ec := clamp_s (i := t) (by omega)
  have ekt : t.toNatClampNeg = tN := by omega
  have ecm := clamp_s (i := Ir 101 tN) (by omega)
  have ekm : (Ir 101 tN).toNatClampNeg = m := by omega
  have m1 := oA (L := L) (xs := xs) (d := d' + 3) (I := Ir) (J := Jr) (t := t) hGr (by omega) (by omega) (by rw [ekt]; omega) (by rw [ekt]; omega)
  have m2 := tA (L := L) (xs := xs) (d := d' + 3) (I := Ir) (J := Jr) (t := t) hGr (by omega) (by omega) (by rw [ekt]; omega) (by rw [ekt]; omega)
  rw [ekt, ekm] at m1 m2
  obtain ⟨w, S, y1, y2, s0, s1⟩ := dw_10 (L := L) (xs := xs) (d := d + 5) (d' := d' + 3) (I := I) (Ir := Ir) (J := J) (Jr := Jr) hG hGr g5 g6 g4
  have gS : gR np nn I Ir (uL J 66 7 S) (uL Jr 122 0 S) := ⟨g1, g2, g3, by rw [uL_s, uL_s], by rw [uL_s]; exact s0, by rw [uL_s]; exact s1⟩
  have hES : gE_23 np nm nn l I Ir (uL J 66 7 S) (uL Jr 122 0 S) := ⟨hV0, hch, hK, gS⟩
  obtain ⟨JS, hJS⟩ : ∃ x, uL J 66 7 S = x := ⟨_, rfl⟩
  obtain ⟨JrS, hJrS⟩ : ∃ x, uL Jr 122 0 S = x := ⟨_, rfl⟩
  have fS : goF I I Ir Ir J JS Jr JrS := by rw [← hJS, ← hJrS]; exact goF_l S
  rw [hJS, hJrS] at gS hES
  rw [hJS] at y1
  rw [hJrS] at y2
  have cC := at_k (L := L) (xs := xs) (d := d + 5) (I := I) (J := JS) (R := R) (c := 42) (m := 64) (fun _ => rfl) (by decide) ht (by omega)
  have cA := at_k (L := L) (xs := xs) (d := d + 5) (I := I) (J := JS) (R := R) (c := 40) (m := 64) (fun _ => rfl) (by decide) ht (by omega)
  have cB := at_k (L := L) (xs := xs) (d := d + 5) (I := I) (J := JS) (R := R) (c := 41) (m := 64) (fun _ => rfl) (by decide) ht (by omega)
  rw [e4, ← h5] at cC
  rw [e2, ← h5] at cA
  rw [e3, ← h5] at cB
  -- the end of a time, of both
  have fin : ∀ (I2 Ir2 : Nat → Nat → Int32) (J2 Jr2 : Nat → Nat → Int64), gE_23 np nm nn l I2 Ir2 J2 Jr2 → goF I I2 Ir Ir2 J J2 Jr Jr2 → Ir2 121 1 = t → ∃ (I1 Ir1 : Nat → Nat → Int32) (J1 Jr1 : Nat → Nat → Int64), (∀ w3 w4 w5 w6 : Value, xEv L xs (d + 6) 123 97 [.ref 63, .ref 23, .int t, w3, w4, w5, w6] [] (124, I2, J2, R) none (124, I1, J1, R)) ∧ (∀ w2 w3 w4 w5 w6 : Value, xEv L xs (d' + 4) 224 107 [.ref 86, .int t, w2, w3, w4, w5, w6] [] (124, Ir2, Jr2, Rr) none (124, Ir1, Jr1, Rr)) ∧ gE_23 np nm nn l I1 Ir1 J1 Jr1 ∧ goF I I1 Ir Ir1 J J1 Jr Jr1 ∧ I1 66 5 = t + 1 ∧ Ir1 121 1 = t + 1 := by
    intro I2 Ir2 J2 Jr2 k1 k2 k3
    have k4 : gR np nn (uI I2 66 5 (t + 1)) (uI Ir2 121 1 (t + 1)) J2 Jr2 := by
      obtain ⟨w1, w2, w3, w4⟩ := k1.2.2.2
      refine ⟨fun n hn => ?_, fun n z1 z2 => ?_, fun i hi => ?_, w4⟩
      · rw [uI_c I2 n (t + 1) (by decide : (67 : Nat) ≠ 66), uI_c I2 n (t + 1) (by decide : (68 : Nat) ≠ 66), uI_c I2 n (t + 1) (by decide : (69 : Nat) ≠ 66), uI_c I2 n (t + 1) (by decide : (70 : Nat) ≠ 66), uI_n Ir2 (t + 1) (by omega : ¬ (121 = 121 ∧ 9 + n = 1)), uI_n Ir2 (t + 1) (by omega : ¬ (121 = 121 ∧ 13 + n = 1)), uI_n Ir2 (t + 1) (by omega : ¬ (121 = 121 ∧ 17 + n = 1)), uI_n Ir2 (t + 1) (by omega : ¬ (121 = 121 ∧ 21 + n = 1))]
        exact w1 n hn
      · rw [uI_c I2 n (t + 1) (by decide : (67 : Nat) ≠ 66)]
        exact w2 n z1 z2
      · rw [uI_n I2 (t + 1) (by omega : ¬ (66 = 66 ∧ 6 = 5)), uI_n Ir2 (t + 1) (by omega : ¬ (121 = 121 ∧ 2 + i = 1))]
        exact w3 i hi
    have k5 : goF I (uI I2 66 5 (t + 1)) Ir (uI Ir2 121 1 (t + 1)) J J2 Jr Jr2 := goF_t k2 (goF_n _ _)
    have k6 := gE_u_23 hE0 k5 k4
    have x26 : Ir2 86 26 = Ir 86 26 := k2.2.2.1 86 26 (by omega) (by omega)
    have x102 : ∀ k, Ir2 102 k = Ir 102 k := fun k => k2.2.2.1 102 k (by omega) (by omega)
    obtain ⟨z, z1, z2⟩ := lst_23 (L := L) (xs := xs) (d := d + 5) (J := J2) (R := R) hG k6.1 (hrS_e hh (fun k => k5.2.2.1 94 k (by omega) (by omega))) ht tl
    have et1 : (t + 1).toInt = (tN + 1 : Nat) := by rw [i_add1 (by omega)]; omega
    have ec1 := clamp_s (i := t + 1) (by omega)
    have ek1 : (t + 1).toNatClampNeg = tN + 1 := by omega
    have y102 : ∀ k, (uI Ir2 121 1 (t + 1)) 102 k = Ir2 102 k := fun k => uI_c Ir2 k (t + 1) (by decide)
    rw [y102, y102] at z2
    have lk : ∀ i, i < l.length → 0 ≤ (Ir2 102 i).toInt := fun i hi => by
      obtain ⟨⟨a, b⟩, hab⟩ : ∃ x, l[i]? = some x := ⟨_, List.getElem?_eq_getElem hi⟩
      have := (q12 i a b hab).2.1
      rw [x102]
      omega
    have e24 : (24 : Int32).toInt = 24 := by decide
    have dv : ∀ i, i < l.length → ((Ir2 102 i) / 24).toInt = (Ir2 102 i).toInt / 24 := fun i hi => by
      rw [i_div (lk i hi) (by omega), e24]
    have nxt : (uI Ir2 121 1 (Ir2 121 1 + 1)) = uI Ir2 121 1 (t + 1) := by rw [k3]
    rcases z2 with ⟨z0, z2⟩ | ⟨z0, z2, z3⟩
    · -- a night
      obtain ⟨I1, Ir1, J1, Jr1, n1, n2, n3, n4, n5, n6, n7⟩ := ngt_23 (L := L) (xs := xs) (d := d + 3) (d' := d' + 2) hG hGr np 0 0 xmk (uI I2 66 5 (t + 1)) (uI Ir2 121 1 (t + 1)) J2 Jr2 (by omega) (by decide) k6
      have n8 := vn_s hGr n2
      refine ⟨I1, Ir1, J1, Jr1, fun w3 w4 w5 w6 => up_n_23 hG z1 (by rw [z0]; decide) (un_s_23 hG n1), fun w2 w3 w4 w5 w6 => ?_, n3, goF_t k5 ⟨fun c k _ h2 h3 => n4 c k (by omega) (by omega), fun c k _ h2 => n6 c k h2, fun c k _ h2 => n5 c k (by omega), fun c k _ h2 => n7 c k h2⟩, by rw [n4 66 5 (by omega) (by omega), uI_s], by rw [n5 121 1 (by omega), uI_s]⟩
      rcases z2 with z2 | ⟨z2, z3⟩
      · exact vh_l hGr (by rw [x26]; omega) (by rw [nxt]; exact n8)
      · exact vh_n hGr (by rw [x26]; omega) (by omega) (by omega) (by omega) (by omega) (by rw [ek1, ekt, dv _ z2, dv _ tl]; exact z3) (by rw [nxt]; exact n8)
    · refine ⟨_, _, J2, Jr2, fun w3 w4 w5 w6 => up_e_23 hG z1 (by rw [z0]; decide), fun w2 w3 w4 w5 w6 => ?_, k6, k5, uI_s _ _ _ _, uI_s _ _ _ _⟩
      have := vh_e (L := L) (xs := xs) (d := d' + 4) (I := Ir2) (J := Jr2) (R := Rr) (t := t) (w2 := w2) (w3 := w3) (w4 := w4) (w5 := w5) (w6 := w6) hGr (by rw [x26]; omega) (by omega) (by omega) (by omega) (by omega) (by rw [ek1, ekt, dv _ z2, dv _ tl]; exact z3)
      rw [nxt] at this
      exact this
  have ka := at9_i (x := 2) (z := 2) (by decide) (by decide) ha (by omega)
  have kb := at9_i (x := 2) (z := 2) (by decide) (by decide) hb (by omega)
  have lva := g3 aN an
  have lvb := g3 bN bn
  have hch2 : (Ir 101 (Ir 121 1).toNatClampNeg).toNatClampNeg = m := by rw [h1, ekt]; exact ekm
  have o1 : 0 ≤ (Ir 121 1).toInt := by rw [h1]; omega
  have o2 : (Ir 121 1).toInt < 64 := by rw [h1]; omega
  have o3 : 0 ≤ (Ir 101 (Ir 121 1).toNatClampNeg).toInt := by rw [h1, ekt]; omega
  have o4 : (Ir 101 (Ir 121 1).toNatClampNeg).toInt < 32 := by rw [h1, ekt]; omega
  rw [← h1] at m1 m2
  by_cases hc : w.toInt < (Ir 95 m).toInt
  rotate_left
  · obtain ⟨I1, Ir1, J1, Jr1, f1, f2, f3⟩ := fin I Ir JS JrS hES fS h1
    exact ⟨I1, Ir1, J1, Jr1, up_a_23 hG y1 cC (by omega) (by rw [h5]; exact f1 _ _ _ _), vg_0 hGr m1 m2 y2 o1 o2 o3 o4 (by rw [hch2]; omega) (by rw [h1]; exact f2 _ _ _ _ _), f3⟩
  have cX := gp_run (L := L) (xs := xs) (d := d + 4) (I := I) (J := JS) (R := R) hG (Ir 92 m)
  have cY := gp_run (L := L) (xs := xs) (d := d + 4) (I := I) (J := JS) (R := R) hG (Ir 93 m)
  by_cases hd : tb (I 66 6) aN = true ∧ tb (I 66 6) bN = true
  rotate_left
  · obtain ⟨I1, Ir1, J1, Jr1, f1, f2, f3⟩ := fin I Ir JS JrS hES fS h1
    have t1 := teld_23 (L := L) (xs := xs) (d := d + 2) (J := JS) (R := R) hG hV0 (had := pcF (I 67) (Ir 92 m) 4) ha an hb bn hd
    have t2 := teld_23 (L := L) (xs := xs) (d := d + 2) (J := JS) (R := R) hG hV0 (had := pcF (I 67) (Ir 93 m) 4) hb bn ha an (fun e => hd ⟨e.2, e.1⟩)
    refine ⟨I1, Ir1, J1, Jr1, up_b_23 hG y1 cC hc cA cB cX cY t1 t2 (by rw [h5]; exact f1 _ _ _ _), ?_, f3⟩
    cases ha1 : tb (I 66 6) aN with
    | false =>
      rw [ha1] at lva
      exact vg_1 hGr m1 m2 y2 o1 o2 o3 o4 (by rw [hch2]; exact hc) ka.1 ka.2.1 (by rw [ka.2.2, lva]; decide) (by rw [h1]; exact f2 _ _ _ _ _)
    | true =>
      cases hb1 : tb (I 66 6) bN with
      | true => exact absurd ⟨ha1, hb1⟩ hd
      | false =>
        rw [ha1] at lva
        rw [hb1] at lvb
        exact vg_2 hGr m1 m2 y2 o1 o2 o3 o4 (by rw [hch2]; exact hc) ka.1 ka.2.1 (by rw [ka.2.2, lva]; decide) kb.1 kb.2.1 (by rw [kb.2.2, lvb]; decide) (by rw [h1]; exact f2 _ _ _ _ _)
  obtain ⟨ha1, hb1⟩ := hd
  rw [ha1] at lva
  rw [hb1] at lvb
  obtain ⟨nX, -⟩ := gR_now gS p3 (q := Ir 92 m) b1
  obtain ⟨nY, -⟩ := gR_now gS p3 (q := Ir 93 m) b3
  have rX := gh_run (L := L) (xs := xs) (d := d' + 3) (I := Ir) (J := JrS) (R := Rr) hGr q6 p3 (Ir 92 m)
  have rY := gh_run (L := L) (xs := xs) (d := d' + 3) (I := Ir) (J := JrS) (R := Rr) hGr q6 p3 (Ir 93 m)
  rw [← nX] at rX
  rw [← nY] at rY
  have bX := pcF_tb (f := I 67) (q := Ir 92 m) 4 (by decide)
  have bY := pcF_tb (f := I 67) (q := Ir 93 m) 4 (by decide)
  obtain ⟨I1, Ir1, J1, Jr1, u1, u2, u3, u4, u5⟩ := tel_23 (L := L) (xs := xs) (d := d) (d' := d') hG hGr (had := pcF (I 67) (Ir 92 m) 4) ha an hb bn ht tl nn 0 0 xmk I Ir JS JrS (by omega) (by decide) hES h5 ha1 hb1 (fun k _ h2 h3 => by
    rw [bX k] at h3
    exact of_decide_eq_true (Bool.and_eq_true_iff.mp h3).2)
  have v5 : I1 66 5 = t := (u4.1 66 5 (by omega) (by omega)).trans h5
  have v6 : I1 66 6 = I 66 6 := u4.1 66 6 (by omega) (by omega)
  obtain ⟨I2, Ir2, J2, Jr2, w1, w2, w3, w4, w5⟩ := tel_23 (L := L) (xs := xs) (d := d) (d' := d') hG hGr (had := pcF (I 67) (Ir 93 m) 4) hb bn ha an ht tl nn 0 0 xmk I1 Ir1 J1 Jr1 (by omega) (by decide) u3 v5 (by rw [v6]; exact hb1) (by rw [v6]; exact ha1) (fun k _ h2 h3 => by
    rw [bY k] at h3
    have e : I 67 k = Ir 93 m := of_decide_eq_true (Bool.and_eq_true_iff.mp h3).2
    rw [u5 k (by omega) (by rw [bX k, e, decide_eq_false (show ¬ (Ir 93 m = Ir 92 m) from fun z => b5 (by rw [z])), Bool.and_false])]
    exact e)
  obtain ⟨I3, Ir3, J3, Jr3, f1, f2, f3⟩ := fin I2 Ir2 J2 Jr2 w3 (goF_t fS (goF_g (tlG_t u4 w4))) (((tlG_t u4 w4).2.2.1 121 1 (by omega) (by omega)).trans h1)
  exact ⟨I3, Ir3, J3, Jr3, up_b_23 hG y1 cC hc cA cB cX cY (utl_s_23 hG u1) (utl_s_23 hG w1) (by rw [h5]; exact f1 _ _ _ _), vg_3 hGr m1 m2 y2 o1 o2 o3 o4 (by rw [hch2]; exact hc) ka.1 ka.2.1 (by rw [ka.2.2, lva]; decide) kb.1 kb.2.1 (by rw [kb.2.2, lvb]; decide) rX rY (by rw [h1]; exact vt_s hGr u2) (by rw [h1]; exact vt_s hGr w2) (by rw [h1]; exact f2 _ _ _ _ _), f3⟩
