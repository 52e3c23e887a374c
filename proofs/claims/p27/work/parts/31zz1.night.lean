/-- the night, of both, from person m on -/
theorem ngt_3 {L : Nat} {xs : Nat → Int32} {d d' : Nat} {R Rr : Nat → Nat → Nat} (hG : aGd R) (hGr : aGd Rr) {np nm nn : Nat} {l : List (Nat × Nat)} : ∀ (f m : Nat) (i : Int32) (w2 : Value) (I Ir : Nat → Nat → Int32) (J Jr : Nat → Nat → Int64), m + f = np → i.toInt = m → gE_3 np nm nn l I Ir J Jr →
    ∃ (I1 Ir1 : Nat → Nat → Int32) (J1 Jr1 : Nat → Nat → Int64), xEv L xs (d + 2) 131 2 [.ref 63, .ref 3, .int i] [] (124, I, J, R) none (124, I1, J1, R) ∧ xEv L xs (d' + 1) 230 2 [.ref 86, .int i, w2] [] (124, Ir, Jr, Rr) none (124, Ir1, Jr1, Rr) ∧ gE_3 np nm nn l I1 Ir1 J1 Jr1 ∧ (∀ c k, ¬ (c = 66 ∧ k = 6) → c ≠ 67 → I1 c k = I c k) ∧ (∀ c k, ¬ (c = 121 ∧ 2 ≤ k ∧ k < 13) → Ir1 c k = Ir c k) ∧ (∀ c k, ¬ (c = 66 ∧ k = 7) → J1 c k = J c k) ∧ (∀ c k, ¬ (c = 122 ∧ k = 0) → Jr1 c k = Jr c k) := by
  intro f
  induction f with
  | zero =>
    intro m i w2 I Ir J Jr hm hi hE
    have hV := hE.1
    obtain ⟨⟨p1, p2, p3⟩, p4, p5, p6, ⟨q1, q2⟩, ⟨q3, q4⟩, ⟨q5, q6⟩, q7, q8, q9, ⟨q10, q11⟩, q12, q13, q14, q15, q16, q17⟩ := hV
    exact ⟨I, Ir, J, Jr, un_e_3 hG (by omega), vn_e hGr (by omega), hE, fun _ _ _ _ => rfl, fun _ _ _ => rfl, fun _ _ _ => rfl, fun _ _ _ => rfl⟩
  | succ f ih =>
    intro m i w2 I Ir J Jr hm hi hE
    have hE0 := hE
    obtain ⟨hV, hch, hK, hg⟩ := hE
    have hV0 := hV
    obtain ⟨⟨p1, p2, p3⟩, p4, p5, p6, ⟨q1, q2⟩, ⟨q3, q4⟩, ⟨q5, q6⟩, q7, q8, q9, ⟨q10, q11⟩, q12, q13, q14, q15, q16, q17⟩ := hV
    have mp : m < np := by omega
    obtain ⟨-, e6⟩ := q7 m mp
    obtain ⟨g1, g2, g3, g4, g5, g6⟩ := hg
    have hi' : (i + 1).toInt = (m + 1 : Nat) := by rw [i_add1 (by omega)]; omega
    have j2 := at9_i (x := 2) (z := 2) (by decide) (by decide) hi (by omega)
    have eci := clamp_s (i := i) (by omega)
    have eki : i.toNatClampNeg = m := by omega
    have lv := g3 m mp
    have bm := tb_shr (x := I 66 6) hi (by omega)
    cases hb : tb (I 66 6) m with
    | false =>
      rw [hb] at lv
      obtain ⟨I1, Ir1, J1, Jr1, x1, x2, x3⟩ := ih (m + 1) (i + 1) w2 I Ir J Jr (by omega) hi' hE0
      exact ⟨I1, Ir1, J1, Jr1, un_d_3 hG (by omega) (by rw [bm, hb]; decide) x1, vn_d hGr (by omega) j2.1 j2.2.1 (by rw [j2.2.2, lv]; decide) x2, x3⟩
    | true =>
      rw [hb] at lv
      obtain ⟨w, S, y1, y2, s0, s1⟩ := dw_1000 (L := L) (xs := xs) (d := d + 1) (d' := d') (I := I) (Ir := Ir) (J := J) (Jr := Jr) hG hGr g5 g6 g4
      have c2 := at_k (L := L) (xs := xs) (d := d + 1) (I := I) (J := uL J 66 7 S) (R := R) (c := 6) (m := 7) (fun _ => rfl) (by decide) hi (by omega)
      rw [e6] at c2
      have gS : gR np nn I Ir (uL J 66 7 S) (uL Jr 122 0 S) := ⟨g1, g2, g3, by rw [uL_s, uL_s], by rw [uL_s]; exact s0, by rw [uL_s]; exact s1⟩
      have fJ : ∀ c k, ¬ (c = 66 ∧ k = 7) → (uL J 66 7 S) c k = J c k := fun c k h => uL_n _ _ h
      have fR : ∀ c k, ¬ (c = 122 ∧ k = 0) → (uL Jr 122 0 S) c k = Jr c k := fun c k h => uL_n _ _ h
      by_cases hd : w.toInt < (Ir 91 m).toInt
      · obtain ⟨I2, b1, b2, b3, b4⟩ := bury_run (L := L) (xs := xs) (d := d) (I := I) (J := uL J 66 7 S) (R := R) hG i
        obtain ⟨Ir2, z2, z1, z3, z4⟩ := vb_run (L := L) (xs := xs) (d := d' + 1) (J := uL Jr 122 0 S) (R := Rr) hGr (I := uI Ir 121 (2 + m) 0) (nn := nn) (by rw [uI_n _ _ (by omega)]; exact q6) p3 i
        have f2 : ∀ c k, ¬ (c = 121 ∧ 2 ≤ k ∧ k < 13) → Ir2 c k = Ir c k := fun c k h => by rw [z4 c k (by omega), uI_n _ _ (by omega)]
        have hm1 : (-1 : Int32) ≠ i := fun e => by rw [← e, show (-1 : Int32).toInt = -1 from by decide] at hi; omega
        have gB : gR np nn I2 Ir2 (uL J 66 7 S) (uL Jr 122 0 S) := by
          refine ⟨fun n hn => ?_, fun n h1 h2 => ?_, fun q hq => ?_, gS.2.2.2⟩
          · obtain ⟨a1, a2, a3, a4⟩ := g1 n hn
            have w9 : (uI Ir 121 (2 + m) 0) 121 (9 + n) = Ir 121 (9 + n) := uI_n _ _ (by omega)
            rw [b3 n hn, b4 68 n (by omega) (by omega), b4 69 n (by omega) (by omega), b4 70 n (by omega) (by omega), z3 n hn, w9, f2 121 (13 + n) (by omega), f2 121 (17 + n) (by omega), f2 121 (21 + n) (by omega)]
            refine ⟨?_, a2, a3, a4⟩
            by_cases hn2 : n < nn
            · by_cases e : Ir 121 (9 + n) = i
              · rw [a1, if_pos e, if_pos ⟨hn2, e⟩]
              · rw [a1, if_neg e, if_neg (show ¬ (n < nn ∧ Ir 121 (9 + n) = i) from fun h => e h.2)]
            · rw [if_neg (show ¬ (n < nn ∧ Ir 121 (9 + n) = i) from fun h => hn2 h.1), ← a1, g2 n (by omega) hn, if_neg hm1]
          · rw [b3 n h2, g2 n h1 h2, if_neg hm1]
          · rw [b2, tb_bury hi (by omega) (by omega)]
            by_cases e : q = m
            · rw [e, z4 121 (2 + m) (by omega), uI_s]
              simp
            · rw [z4 121 (2 + q) (by omega), uI_n _ _ (by omega), g3 q hq]
              simp [e]
        have hE2 : gE_3 np nm nn l I2 Ir2 (uL J 66 7 S) (uL Jr 122 0 S) := by
          refine ⟨VR_t_3 hV0 (fun c q h1 h2 => b4 c q (by omega) (by omega)) (fun c q hc => f2 c q (by omega)), fun q hq => ?_, fun j hj => ?_, gB⟩
          · rw [f2 95 q (by omega)]
            exact hch q hq
          · rw [b4 64 j (by omega) (by omega), b4 65 j (by omega) (by omega), f2 119 j (by omega), f2 120 j (by omega)]
            exact hK j hj
        obtain ⟨I1, Ir1, J1, Jr1, x1, x2, x3, x4, x5, x6, x7⟩ := ih (m + 1) (i + 1) z2 I2 Ir2 (uL J 66 7 S) (uL Jr 122 0 S) (by omega) hi' hE2
        exact ⟨I1, Ir1, J1, Jr1, un_b_3 hG (by omega) (by rw [bm, hb]; decide) y1 c2 hd b1 x1, vn_b hGr (by omega) j2.1 j2.2.1 (by rw [j2.2.2, lv]; decide) y2 (by omega) (by omega) (by rw [eki]; exact hd) j2.1 j2.2.1 (by rw [j2.2.2]; exact z1 _ _ x2), x3, fun c k h1 h2 => (x4 c k h1 h2).trans (b4 c k h1 h2), fun c k h => (x5 c k h).trans (f2 c k h), fun c k h => (x6 c k h).trans (fJ c k h), fun c k h => (x7 c k h).trans (fR c k h)⟩
      · obtain ⟨I1, Ir1, J1, Jr1, x1, x2, x3, x4, x5, x6, x7⟩ := ih (m + 1) (i + 1) w2 I Ir (uL J 66 7 S) (uL Jr 122 0 S) (by omega) hi' ⟨hV0, hch, hK, gS⟩
        exact ⟨I1, Ir1, J1, Jr1, un_k_3 hG (by omega) (by rw [bm, hb]; decide) y1 c2 (by omega) x1, vn_k hGr (by omega) j2.1 j2.2.1 (by rw [j2.2.2, lv]; decide) y2 (by omega) (by omega) (by rw [eki]; omega) x2, x3, x4, x5, fun c k h => (x6 c k h).trans (fJ c k h), fun c k h => (x7 c k h).trans (fR c k h)⟩
/-- the night, of both, from person m on -/
theorem ngt_23 {L : Nat} {xs : Nat → Int32} {d d' : Nat} {R Rr : Nat → Nat → Nat} (hG : aGd R) (hGr : aGd Rr) {np nm nn : Nat} {l : List (Nat × Nat)} : ∀ (f m : Nat) (i : Int32) (w2 : Value) (I Ir : Nat → Nat → Int32) (J Jr : Nat → Nat → Int64), m + f = np → i.toInt = m → gE_23 np nm nn l I Ir J Jr →
    ∃ (I1 Ir1 : Nat → Nat → Int32) (J1 Jr1 : Nat → Nat → Int64), xEv L xs (d + 2) 131 2 [.ref 63, .ref 23, .int i] [] (124, I, J, R) none (124, I1, J1, R) ∧ xEv L xs (d' + 1) 230 2 [.ref 86, .int i, w2] [] (124, Ir, Jr, Rr) none (124, Ir1, Jr1, Rr) ∧ gE_23 np nm nn l I1 Ir1 J1 Jr1 ∧ (∀ c k, ¬ (c = 66 ∧ k = 6) → c ≠ 67 → I1 c k = I c k) ∧ (∀ c k, ¬ (c = 121 ∧ 2 ≤ k ∧ k < 13) → Ir1 c k = Ir c k) ∧ (∀ c k, ¬ (c = 66 ∧ k = 7) → J1 c k = J c k) ∧ (∀ c k, ¬ (c = 122 ∧ k = 0) → Jr1 c k = Jr c k) := by
  intro f
  induction f with
  | zero =>
    intro m i w2 I Ir J Jr hm hi hE
    have hV := hE.1
    obtain ⟨⟨p1, p2, p3⟩, p4, p5, p6, ⟨q1, q2⟩, ⟨q3, q4⟩, ⟨q5, q6⟩, q7, q8, q9, ⟨q10, q11⟩, q12, q13, q14, q15, q16, q17⟩ := hV
    exact ⟨I, Ir, J, Jr, un_e_23 hG (by omega), vn_e hGr (by omega), hE, fun _ _ _ _ => rfl, fun _ _ _ => rfl, fun _ _ _ => rfl, fun _ _ _ => rfl⟩
  | succ f ih =>
    intro m i w2 I Ir J Jr hm hi hE
    have hE0 := hE
    obtain ⟨hV, hch, hK, hg⟩ := hE
    have hV0 := hV
    obtain ⟨⟨p1, p2, p3⟩, p4, p5, p6, ⟨q1, q2⟩, ⟨q3, q4⟩, ⟨q5, q6⟩, q7, q8, q9, ⟨q10, q11⟩, q12, q13, q14, q15, q16, q17⟩ := hV
    have mp : m < np := by omega
    obtain ⟨-, e6⟩ := q7 m mp
    obtain ⟨g1, g2, g3, g4, g5, g6⟩ := hg
    have hi' : (i + 1).toInt = (m + 1 : Nat) := by rw [i_add1 (by omega)]; omega
    have j2 := at9_i (x := 2) (z := 2) (by decide) (by decide) hi (by omega)
    have eci := clamp_s (i := i) (by omega)
    have eki : i.toNatClampNeg = m := by omega
    have lv := g3 m mp
    have bm := tb_shr (x := I 66 6) hi (by omega)
    cases hb : tb (I 66 6) m with
    | false =>
      rw [hb] at lv
      obtain ⟨I1, Ir1, J1, Jr1, x1, x2, x3⟩ := ih (m + 1) (i + 1) w2 I Ir J Jr (by omega) hi' hE0
      exact ⟨I1, Ir1, J1, Jr1, un_d_23 hG (by omega) (by rw [bm, hb]; decide) x1, vn_d hGr (by omega) j2.1 j2.2.1 (by rw [j2.2.2, lv]; decide) x2, x3⟩
    | true =>
      rw [hb] at lv
      obtain ⟨w, S, y1, y2, s0, s1⟩ := dw_1000 (L := L) (xs := xs) (d := d + 1) (d' := d') (I := I) (Ir := Ir) (J := J) (Jr := Jr) hG hGr g5 g6 g4
      have c2 := at_k (L := L) (xs := xs) (d := d + 1) (I := I) (J := uL J 66 7 S) (R := R) (c := 26) (m := 7) (fun _ => rfl) (by decide) hi (by omega)
      rw [e6] at c2
      have gS : gR np nn I Ir (uL J 66 7 S) (uL Jr 122 0 S) := ⟨g1, g2, g3, by rw [uL_s, uL_s], by rw [uL_s]; exact s0, by rw [uL_s]; exact s1⟩
      have fJ : ∀ c k, ¬ (c = 66 ∧ k = 7) → (uL J 66 7 S) c k = J c k := fun c k h => uL_n _ _ h
      have fR : ∀ c k, ¬ (c = 122 ∧ k = 0) → (uL Jr 122 0 S) c k = Jr c k := fun c k h => uL_n _ _ h
      by_cases hd : w.toInt < (Ir 91 m).toInt
      · obtain ⟨I2, b1, b2, b3, b4⟩ := bury_run (L := L) (xs := xs) (d := d) (I := I) (J := uL J 66 7 S) (R := R) hG i
        obtain ⟨Ir2, z2, z1, z3, z4⟩ := vb_run (L := L) (xs := xs) (d := d' + 1) (J := uL Jr 122 0 S) (R := Rr) hGr (I := uI Ir 121 (2 + m) 0) (nn := nn) (by rw [uI_n _ _ (by omega)]; exact q6) p3 i
        have f2 : ∀ c k, ¬ (c = 121 ∧ 2 ≤ k ∧ k < 13) → Ir2 c k = Ir c k := fun c k h => by rw [z4 c k (by omega), uI_n _ _ (by omega)]
        have hm1 : (-1 : Int32) ≠ i := fun e => by rw [← e, show (-1 : Int32).toInt = -1 from by decide] at hi; omega
        have gB : gR np nn I2 Ir2 (uL J 66 7 S) (uL Jr 122 0 S) := by
          refine ⟨fun n hn => ?_, fun n h1 h2 => ?_, fun q hq => ?_, gS.2.2.2⟩
          · obtain ⟨a1, a2, a3, a4⟩ := g1 n hn
            have w9 : (uI Ir 121 (2 + m) 0) 121 (9 + n) = Ir 121 (9 + n) := uI_n _ _ (by omega)
            rw [b3 n hn, b4 68 n (by omega) (by omega), b4 69 n (by omega) (by omega), b4 70 n (by omega) (by omega), z3 n hn, w9, f2 121 (13 + n) (by omega), f2 121 (17 + n) (by omega), f2 121 (21 + n) (by omega)]
            refine ⟨?_, a2, a3, a4⟩
            by_cases hn2 : n < nn
            · by_cases e : Ir 121 (9 + n) = i
              · rw [a1, if_pos e, if_pos ⟨hn2, e⟩]
              · rw [a1, if_neg e, if_neg (show ¬ (n < nn ∧ Ir 121 (9 + n) = i) from fun h => e h.2)]
            · rw [if_neg (show ¬ (n < nn ∧ Ir 121 (9 + n) = i) from fun h => hn2 h.1), ← a1, g2 n (by omega) hn, if_neg hm1]
          · rw [b3 n h2, g2 n h1 h2, if_neg hm1]
          · rw [b2, tb_bury hi (by omega) (by omega)]
            by_cases e : q = m
            · rw [e, z4 121 (2 + m) (by omega), uI_s]
              simp
            · rw [z4 121 (2 + q) (by omega), uI_n _ _ (by omega), g3 q hq]
              simp [e]
        have hE2 : gE_23 np nm nn l I2 Ir2 (uL J 66 7 S) (uL Jr 122 0 S) := by
          refine ⟨VR_t_23 hV0 (fun c q h1 h2 => b4 c q (by omega) (by omega)) (fun c q hc => f2 c q (by omega)), fun q hq => ?_, fun j hj => ?_, gB⟩
          · rw [f2 95 q (by omega)]
            exact hch q hq
          · rw [b4 64 j (by omega) (by omega), b4 65 j (by omega) (by omega), f2 119 j (by omega), f2 120 j (by omega)]
            exact hK j hj
        obtain ⟨I1, Ir1, J1, Jr1, x1, x2, x3, x4, x5, x6, x7⟩ := ih (m + 1) (i + 1) z2 I2 Ir2 (uL J 66 7 S) (uL Jr 122 0 S) (by omega) hi' hE2
        exact ⟨I1, Ir1, J1, Jr1, un_b_23 hG (by omega) (by rw [bm, hb]; decide) y1 c2 hd b1 x1, vn_b hGr (by omega) j2.1 j2.2.1 (by rw [j2.2.2, lv]; decide) y2 (by omega) (by omega) (by rw [eki]; exact hd) j2.1 j2.2.1 (by rw [j2.2.2]; exact z1 _ _ x2), x3, fun c k h1 h2 => (x4 c k h1 h2).trans (b4 c k h1 h2), fun c k h => (x5 c k h).trans (f2 c k h), fun c k h => (x6 c k h).trans (fJ c k h), fun c k h => (x7 c k h).trans (fR c k h)⟩
      · obtain ⟨I1, Ir1, J1, Jr1, x1, x2, x3, x4, x5, x6, x7⟩ := ih (m + 1) (i + 1) w2 I Ir (uL J 66 7 S) (uL Jr 122 0 S) (by omega) hi' ⟨hV0, hch, hK, gS⟩
        exact ⟨I1, Ir1, J1, Jr1, un_k_23 hG (by omega) (by rw [bm, hb]; decide) y1 c2 (by omega) x1, vn_k hGr (by omega) j2.1 j2.2.1 (by rw [j2.2.2, lv]; decide) y2 (by omega) (by omega) (by rw [eki]; omega) x2, x3, x4, x5, fun c k h => (x6 c k h).trans (fJ c k h), fun c k h => (x7 c k h).trans (fR c k h)⟩
