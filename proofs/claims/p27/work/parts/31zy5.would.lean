/-- wants to tell, of both -/
theorem wts_3 {L : Nat} {xs : Nat → Int32} {d d' : Nat} {I Ir : Nat → Nat → Int32} {J Jr : Nat → Nat → Int64} {R Rr : Nat → Nat → Nat} (hG : aGd R) (hGr : aGd Rr) {np nm nn : Nat} {l : List (Nat × Nat)} (hV : VR_3 np nm nn l I Ir) (hch : ∀ q, q < 16 → 0 ≤ (Ir 95 q).toInt ∧ (Ir 95 q).toInt ≤ 10) (hK : kdR I Ir) {n p q t : Int32} {k pN qN tN : Nat} (hn : n.toInt = k) (kn : k < nn) (hp : p.toInt = pN) (pn : pN < np) (hq : q.toInt = qN) (qn : qN < np) (ht : t.toInt = tN) (tl : tN < l.length) (h5 : I 66 5 = t) (hby : I 70 k = Ir 121 (21 + k)) (hfor : p ≠ Ir 97 k) :
    ∃ (r : Int32) (I1 Ir1 : Nat → Nat → Int32) (J1 Jr1 : Nat → Nat → Int64), (r = 0 ∨ r = 1) ∧ xEv L xs (d + 4) 128 0 [.ref 63, .ref 3, .int n, .int p, .int q, xmk, xmk, xmk, xmk, xmk, xmk] [] (124, I, J, R) (some (.int r)) (124, I1, J1, R) ∧ xEv L xs (d' + 2) 229 0 [.ref 86, .int n, .int p, .int q, .int t] [] (124, Ir, Jr, Rr) (some (.int r)) (124, Ir1, Jr1, Rr) ∧ tlF I I1 Ir Ir1 J J1 Jr Jr1 := by
  have hV0 := hV
  obtain ⟨⟨p1, p2, p3⟩, p4, p5, p6, ⟨q1, q2⟩, ⟨q3, q4⟩, ⟨q5, q6⟩, q7, q8, q9, ⟨q10, q11⟩, q12, q13, q14, q15, q16, q17⟩ := hV
  obtain ⟨-, e12, -, -, e15, -⟩ := q9 k kn
  have fb := q16 k kn
  rw [e12] at fb
  obtain ⟨-, -, fb1, fb2, -⟩ := fb
  have ecn := clamp_s (i := n) (by omega)
  have ekn : n.toNatClampNeg = k := by omega
  have ecp := clamp_s (i := p) (by omega)
  have ekp : p.toNatClampNeg = pN := by omega
  have e21' : (21 : Int32).toInt = 21 := by decide
  have e21 : (21 + n).toInt = (21 + k : Nat) := by rw [i_add (by omega) (by omega)]; omega
  have ec21 := clamp_s (i := 21 + n) (by omega)
  have ek21 : (21 + n).toNatClampNeg = 21 + k := by omega
  obtain ⟨hk1, hk2, hk3, hk4⟩ := hK pN (by omega)
  have et1 : (t + 1).toInt = (tN + 1 : Nat) := by rw [i_add1 (by omega)]; omega
  have c1 := at_k (L := L) (xs := xs) (d := d + 3) (I := I) (J := J) (R := R) (c := 15) (m := 4) (fun _ => rfl) (by decide) hn (by omega)
  have c2 := at_k (L := L) (xs := xs) (d := d + 3) (I := I) (J := J) (R := R) (c := 12) (m := 4) (fun _ => rfl) (by decide) hn (by omega)
  have c3 := at_k (L := L) (xs := xs) (d := d + 3) (I := I) (J := J) (R := R) (c := 64) (m := 7) (fun _ => rfl) (by decide) hp (by omega)
  rw [e15] at c1
  rw [e12] at c2
  rw [hk1] at c3
  have hf : (Ir 97 n.toNatClampNeg).toInt ≠ p.toInt := fun h => hfor (Int32.toInt_inj.mp (by rw [← h, ekn]))
  have kk : (Ir 119 pN).toInt = 0 ∨ (Ir 119 pN).toInt = 1 ∨ (Ir 119 pN).toInt = 2 ∨ (Ir 119 pN).toInt = 3 ∨ (Ir 119 pN).toInt = 4 ∨ (Ir 119 pN).toInt = 5 := by omega
  rcases kk with h | h | h | h | h | h
  · exact ⟨0, _, _, _, _, Or.inl rfl, uw0_3 hG c1 c2 c3 (Or.inl (by omega)), ur_0 hGr (by omega) (by omega) hf (by omega) (by omega) (by rw [ekp]; exact h), tlF_0⟩
  · have c4 := at_k (L := L) (xs := xs) (d := d + 3) (I := I) (J := J) (R := R) (c := 65) (m := 7) (fun _ => rfl) (by decide) hp (by omega)
    rw [hk2 (Int32.toInt_inj.mp (by rw [h]; decide))] at c4
    by_cases g : q.toInt = (Ir 120 pN).toInt
    · exact ⟨1, _, _, _, _, Or.inr rfl, uw1y_3 hG c1 c2 c3 h c4 g, ur_1y hGr (by omega) (by omega) hf (by omega) (by omega) (by rw [ekp]; exact h) (by omega) (by omega) (by rw [ekp]; exact g), tlF_0⟩
    · exact ⟨0, _, _, _, _, Or.inl rfl, uw1n_3 hG c1 c2 c3 h c4 g, ur_1n hGr (by omega) (by omega) hf (by omega) (by omega) (by rw [ekp]; exact h) (by omega) (by omega) (by rw [ekp]; exact g), tlF_0⟩
  · by_cases g : q.toInt = (Ir 97 k).toInt
    · obtain ⟨x, x1⟩ := soo1_3 (L := L) (xs := xs) (d := d + 1) (J := J) hG hV0 (b := Ir 100 k) (fr := q) (to := Ir 97 k) (tm := t + 1) ⟨fb1, fb2⟩ ⟨by omega, by omega⟩
      obtain ⟨y, y1⟩ := soo1_3 (L := L) (xs := xs) (d := d + 1) (J := J) hG hV0 (b := Ir 100 k) (fr := p) (to := Ir 97 k) (tm := t + 1) ⟨fb1, fb2⟩ ⟨by omega, by omega⟩
      rw [← h5] at x1 y1
      exact ⟨1, _, _, _, _, Or.inr rfl, uw2a_3 hG c1 c2 c3 h x1 y1 g, ur_2a hGr (by omega) (by omega) hf (by omega) (by omega) (by rw [ekp]; exact h) (by omega) (by omega) (by rw [ekn]; exact g), tlF_0⟩
    · obtain ⟨x, x1, x2, x3⟩ := soo2_3 (L := L) (xs := xs) (d := d + 1) (d' := d') (J := J) (Jr := Jr) hG hGr hV0 (b := Ir 100 k) (fr := q) (to := Ir 97 k) (tm := t + 1) ⟨by omega, by omega⟩ ⟨fb1, fb2⟩ ⟨by omega, by omega⟩ g
      obtain ⟨y, y1, y2, y3⟩ := soo2_3 (L := L) (xs := xs) (d := d + 1) (d' := d') (J := J) (Jr := Jr) hG hGr hV0 (b := Ir 100 k) (fr := p) (to := Ir 97 k) (tm := t + 1) ⟨by omega, by omega⟩ ⟨fb1, fb2⟩ ⟨by omega, by omega⟩ (fun e => hf (by rw [ekn, e]))
      have y1' := y1
      have x1' := x1
      rw [← h5] at x1' y1'
      have em : (-1 : Int32).toInt = -1 := by decide
      have no : ∀ x' y' : Int32, xEv L xs (d' + 1) 185 0 [.ref 86, .int (Ir 100 k), .int q, .int (Ir 97 k), .int (t + 1), xmk, xmk, xmk, xmk, xmk] [] (124, Ir, Jr, Rr) (some (.int x')) (124, Ir, Jr, Rr) → xEv L xs (d' + 1) 185 0 [.ref 86, .int (Ir 100 k), .int p, .int (Ir 97 k), .int (t + 1), xmk, xmk, xmk, xmk, xmk] [] (124, Ir, Jr, Rr) (some (.int y')) (124, Ir, Jr, Rr) → x'.toInt ≥ y'.toInt → xEv L xs (d' + 2) 229 0 [.ref 86, .int n, .int p, .int q, .int t] [] (124, Ir, Jr, Rr) (some (.int 0)) (124, Ir, Jr, Rr) := fun x' y' hx hy hxy => ur_2n hGr (by omega) (by omega) hf (by omega) (by omega) (by rw [ekp]; exact h) (by omega) (by omega) (by rw [ekn]; exact g) (by omega) (by omega) (by omega) (by omega) (by rw [ekn]; exact hx) (by omega) (by omega) (by omega) (by omega) (by rw [ekn]; exact hy) hxy
      have yes : ∀ x' y' : Int32, xEv L xs (d' + 1) 185 0 [.ref 86, .int (Ir 100 k), .int q, .int (Ir 97 k), .int (t + 1), xmk, xmk, xmk, xmk, xmk] [] (124, Ir, Jr, Rr) (some (.int x')) (124, Ir, Jr, Rr) → xEv L xs (d' + 1) 185 0 [.ref 86, .int (Ir 100 k), .int p, .int (Ir 97 k), .int (t + 1), xmk, xmk, xmk, xmk, xmk] [] (124, Ir, Jr, Rr) (some (.int y')) (124, Ir, Jr, Rr) → x'.toInt < y'.toInt → xEv L xs (d' + 2) 229 0 [.ref 86, .int n, .int p, .int q, .int t] [] (124, Ir, Jr, Rr) (some (.int 1)) (124, Ir, Jr, Rr) := fun x' y' hx hy hxy => ur_2y hGr (by omega) (by omega) hf (by omega) (by omega) (by rw [ekp]; exact h) (by omega) (by omega) (by rw [ekn]; exact g) (by omega) (by omega) (by omega) (by omega) (by rw [ekn]; exact hx) (by omega) (by omega) (by omega) (by omega) (by rw [ekn]; exact hy) hxy
      have x4 : x = -1 ∨ (x ≠ -1 ∧ 0 ≤ x.toInt ∧ x.toInt < l.length) := by
        rcases x3 with x3 | x3
        · exact Or.inl x3
        · exact Or.inr ⟨fun e => by rw [e, em] at x3; omega, x3.1, x3.2⟩
      have y4 : y = -1 ∨ (y ≠ -1 ∧ 0 ≤ y.toInt ∧ y.toInt < l.length) := by
        rcases y3 with y3 | y3
        · exact Or.inl y3
        · exact Or.inr ⟨fun e => by rw [e, em] at y3; omega, y3.1, y3.2⟩
      rcases x4 with x4 | ⟨x4, x5, x6⟩
      · rw [if_pos x4] at x2
        have le : (Ir 86 26).toInt ≥ (if y = -1 then Ir 86 26 else y).toInt := by
          rcases y4 with y4 | ⟨y4, y5, y6⟩
          · rw [if_pos y4]; exact Int.le_refl _
          · rw [if_neg y4]; omega
        exact ⟨0, _, _, _, _, Or.inl rfl, uw2b_3 hG c1 c2 c3 h x1' y1' g (by rw [x4, em]), no _ _ x2 y2 le, tlF_0⟩
      · rw [if_neg x4] at x2
        have xm : x.toInt ≠ -1 := by omega
        rcases y4 with y4 | ⟨y4, y5, y6⟩
        · rw [if_pos y4] at y2
          exact ⟨1, _, _, _, _, Or.inr rfl, uw2c_3 hG c1 c2 c3 h x1' y1' g xm (by rw [y4, em]), yes _ _ x2 y2 (by omega), tlF_0⟩
        · rw [if_neg y4] at y2
          have ym : y.toInt ≠ -1 := by omega
          by_cases z : x.toInt < y.toInt
          · exact ⟨1, _, _, _, _, Or.inr rfl, uw2e_3 hG c1 c2 c3 h x1' y1' g xm ym z, yes _ _ x2 y2 z, tlF_0⟩
          · exact ⟨0, _, _, _, _, Or.inl rfl, uw2d_3 hG c1 c2 c3 h x1' y1' g xm ym (by omega), no _ _ x2 y2 (by omega), tlF_0⟩
  · exact ⟨1, _, _, _, _, Or.inr rfl, uw3_3 hG c1 c2 c3 h, ur_3 hGr (by omega) (by omega) hf (by omega) (by omega) (by rw [ekp]; exact h), tlF_0⟩
  · have c4 := at_k (L := L) (xs := xs) (d := d + 3) (I := I) (J := J) (R := R) (c := 70) (m := 4) (fun _ => rfl) (by decide) hn (by omega)
    rw [hby] at c4
    by_cases g : q.toInt = (Ir 121 (21 + k)).toInt
    · exact ⟨1, _, _, _, _, Or.inr rfl, uw4y_3 hG c1 c2 c3 h c4 g, ur_4y hGr (by omega) (by omega) hf (by omega) (by omega) (by rw [ekp]; exact h) (by omega) (by omega) (by rw [ek21]; exact g), tlF_0⟩
    · exact ⟨0, _, _, _, _, Or.inl rfl, uw4n_3 hG c1 c2 c3 h c4 g, ur_4n hGr (by omega) (by omega) hf (by omega) (by omega) (by rw [ekp]; exact h) (by omega) (by omega) (by rw [ek21]; exact g), tlF_0⟩
  · have c4 := at_k (L := L) (xs := xs) (d := d + 3) (I := I) (J := J) (R := R) (c := 16) (m := 4) (fun _ => rfl) (by decide) hn (by omega)
    obtain ⟨fN, hfN⟩ := Int.eq_ofNat_of_zero_le fb1
    obtain ⟨un, m, I1, Ir1, J1, Jr1, x1, y1, fr, s4, s5, s6, gj, gr, hv⟩ := lb2_3 (L := L) (xs := xs) (d := d) (d' := d') (J := J) (Jr := Jr) hG hGr hV0 hch (nw := n) (to := Ir 97 k) (tm := t + 1) hn kn hfN (by omega) et1 (by omega)
    rw [← h5] at x1
    have b5 : (Ir 119 p.toNatClampNeg).toInt < 0 ∨ 4 < (Ir 119 p.toNatClampNeg).toInt := by rw [ekp]; omega
    by_cases g : q.toInt = (Ir 97 k).toInt
    · exact ⟨1, I1, Ir, J1, Jr, Or.inr rfl, uw5t_3 hG c1 c2 c3 h c4 x1 g, ur_5t hGr (by omega) (by omega) hf (by omega) (by omega) b5 (by omega) (by omega) (by rw [ekn]; exact g), fr.1, fr.2.1, fun _ _ _ => rfl, fun _ _ _ => rfl⟩
    · have tp := tn_pos (16 * (un - 1) - m)
      obtain ⟨o, o1, o2⟩ := qc_run (L := L) (xs := xs) (d := d + 2) (I := I1) (J := J1) hG s4 s5 s6 hq hp (by omega) (by omega) (gj.1 qN (by omega)) (gj.1 pN (by omega))
      obtain ⟨o', u1, u2⟩ := qqk_run (L := L) (xs := xs) (d := d' + 1) (I := Ir1) (J := Jr1) hGr hq hp (by omega) (by omega) (gr qN (by omega)) (gr pN (by omega))
      have lt : cV J1 un pN < cV J1 un qN ↔ rV Jr1 pN < rV Jr1 qN := by
        rw [hv pN pn, hv qN qn]
        exact ⟨fun h => Int.lt_of_mul_lt_mul_right h (Int.le_of_lt tp), fun h => Int.mul_lt_mul_of_pos_right h tp⟩
      by_cases z : rV Jr1 pN < rV Jr1 qN
      · have z' := lt.mpr z
        exact ⟨1, I1, Ir1, J1, Jr1, Or.inr rfl, uw5y_3 hG c1 c2 c3 h c4 x1 g o1 (by omega), ur_5y hGr (by omega) (by omega) hf (by omega) (by omega) b5 (by omega) (by omega) (by rw [ekn]; exact g) (by omega) (by omega) (by omega) (by omega) (by rw [ekn]; exact y1) u1 (by omega), fr⟩
      · have z' := mt lt.mp z
        exact ⟨0, I1, Ir1, J1, Jr1, Or.inl rfl, uw5n_3 hG c1 c2 c3 h c4 x1 g o1 (by omega), ur_5n hGr (by omega) (by omega) hf (by omega) (by omega) b5 (by omega) (by omega) (by rw [ekn]; exact g) (by omega) (by omega) (by omega) (by omega) (by rw [ekn]; exact y1) u1 (by omega), fr⟩
/-- wants to tell, of both -/
theorem wts_23 {L : Nat} {xs : Nat → Int32} {d d' : Nat} {I Ir : Nat → Nat → Int32} {J Jr : Nat → Nat → Int64} {R Rr : Nat → Nat → Nat} (hG : aGd R) (hGr : aGd Rr) {np nm nn : Nat} {l : List (Nat × Nat)} (hV : VR_23 np nm nn l I Ir) (hch : ∀ q, q < 16 → 0 ≤ (Ir 95 q).toInt ∧ (Ir 95 q).toInt ≤ 10) (hK : kdR I Ir) {n p q t : Int32} {k pN qN tN : Nat} (hn : n.toInt = k) (kn : k < nn) (hp : p.toInt = pN) (pn : pN < np) (hq : q.toInt = qN) (qn : qN < np) (ht : t.toInt = tN) (tl : tN < l.length) (h5 : I 66 5 = t) (hby : I 70 k = Ir 121 (21 + k)) (hfor : p ≠ Ir 97 k) :
    ∃ (r : Int32) (I1 Ir1 : Nat → Nat → Int32) (J1 Jr1 : Nat → Nat → Int64), (r = 0 ∨ r = 1) ∧ xEv L xs (d + 4) 128 0 [.ref 63, .ref 23, .int n, .int p, .int q, xmk, xmk, xmk, xmk, xmk, xmk] [] (124, I, J, R) (some (.int r)) (124, I1, J1, R) ∧ xEv L xs (d' + 2) 229 0 [.ref 86, .int n, .int p, .int q, .int t] [] (124, Ir, Jr, Rr) (some (.int r)) (124, Ir1, Jr1, Rr) ∧ tlF I I1 Ir Ir1 J J1 Jr Jr1 := by
  have hV0 := hV
  obtain ⟨⟨p1, p2, p3⟩, p4, p5, p6, ⟨q1, q2⟩, ⟨q3, q4⟩, ⟨q5, q6⟩, q7, q8, q9, ⟨q10, q11⟩, q12, q13, q14, q15, q16, q17⟩ := hV
  obtain ⟨-, e12, -, -, e15, -⟩ := q9 k kn
  have fb := q16 k kn
  rw [e12] at fb
  obtain ⟨-, -, fb1, fb2, -⟩ := fb
  have ecn := clamp_s (i := n) (by omega)
  have ekn : n.toNatClampNeg = k := by omega
  have ecp := clamp_s (i := p) (by omega)
  have ekp : p.toNatClampNeg = pN := by omega
  have e21' : (21 : Int32).toInt = 21 := by decide
  have e21 : (21 + n).toInt = (21 + k : Nat) := by rw [i_add (by omega) (by omega)]; omega
  have ec21 := clamp_s (i := 21 + n) (by omega)
  have ek21 : (21 + n).toNatClampNeg = 21 + k := by omega
  obtain ⟨hk1, hk2, hk3, hk4⟩ := hK pN (by omega)
  have et1 : (t + 1).toInt = (tN + 1 : Nat) := by rw [i_add1 (by omega)]; omega
  have c1 := at_k (L := L) (xs := xs) (d := d + 3) (I := I) (J := J) (R := R) (c := 35) (m := 4) (fun _ => rfl) (by decide) hn (by omega)
  have c2 := at_k (L := L) (xs := xs) (d := d + 3) (I := I) (J := J) (R := R) (c := 32) (m := 4) (fun _ => rfl) (by decide) hn (by omega)
  have c3 := at_k (L := L) (xs := xs) (d := d + 3) (I := I) (J := J) (R := R) (c := 64) (m := 7) (fun _ => rfl) (by decide) hp (by omega)
  rw [e15] at c1
  rw [e12] at c2
  rw [hk1] at c3
  have hf : (Ir 97 n.toNatClampNeg).toInt ≠ p.toInt := fun h => hfor (Int32.toInt_inj.mp (by rw [← h, ekn]))
  have kk : (Ir 119 pN).toInt = 0 ∨ (Ir 119 pN).toInt = 1 ∨ (Ir 119 pN).toInt = 2 ∨ (Ir 119 pN).toInt = 3 ∨ (Ir 119 pN).toInt = 4 ∨ (Ir 119 pN).toInt = 5 := by omega
  rcases kk with h | h | h | h | h | h
  · exact ⟨0, _, _, _, _, Or.inl rfl, uw0_23 hG c1 c2 c3 (Or.inl (by omega)), ur_0 hGr (by omega) (by omega) hf (by omega) (by omega) (by rw [ekp]; exact h), tlF_0⟩
  · have c4 := at_k (L := L) (xs := xs) (d := d + 3) (I := I) (J := J) (R := R) (c := 65) (m := 7) (fun _ => rfl) (by decide) hp (by omega)
    rw [hk2 (Int32.toInt_inj.mp (by rw [h]; decide))] at c4
    by_cases g : q.toInt = (Ir 120 pN).toInt
    · exact ⟨1, _, _, _, _, Or.inr rfl, uw1y_23 hG c1 c2 c3 h c4 g, ur_1y hGr (by omega) (by omega) hf (by omega) (by omega) (by rw [ekp]; exact h) (by omega) (by omega) (by rw [ekp]; exact g), tlF_0⟩
    · exact ⟨0, _, _, _, _, Or.inl rfl, uw1n_23 hG c1 c2 c3 h c4 g, ur_1n hGr (by omega) (by omega) hf (by omega) (by omega) (by rw [ekp]; exact h) (by omega) (by omega) (by rw [ekp]; exact g), tlF_0⟩
  · by_cases g : q.toInt = (Ir 97 k).toInt
    · obtain ⟨x, x1⟩ := soo1_23 (L := L) (xs := xs) (d := d + 1) (J := J) hG hV0 (b := Ir 100 k) (fr := q) (to := Ir 97 k) (tm := t + 1) ⟨fb1, fb2⟩ ⟨by omega, by omega⟩
      obtain ⟨y, y1⟩ := soo1_23 (L := L) (xs := xs) (d := d + 1) (J := J) hG hV0 (b := Ir 100 k) (fr := p) (to := Ir 97 k) (tm := t + 1) ⟨fb1, fb2⟩ ⟨by omega, by omega⟩
      rw [← h5] at x1 y1
      exact ⟨1, _, _, _, _, Or.inr rfl, uw2a_23 hG c1 c2 c3 h x1 y1 g, ur_2a hGr (by omega) (by omega) hf (by omega) (by omega) (by rw [ekp]; exact h) (by omega) (by omega) (by rw [ekn]; exact g), tlF_0⟩
    · obtain ⟨x, x1, x2, x3⟩ := soo2_23 (L := L) (xs := xs) (d := d + 1) (d' := d') (J := J) (Jr := Jr) hG hGr hV0 (b := Ir 100 k) (fr := q) (to := Ir 97 k) (tm := t + 1) ⟨by omega, by omega⟩ ⟨fb1, fb2⟩ ⟨by omega, by omega⟩ g
      obtain ⟨y, y1, y2, y3⟩ := soo2_23 (L := L) (xs := xs) (d := d + 1) (d' := d') (J := J) (Jr := Jr) hG hGr hV0 (b := Ir 100 k) (fr := p) (to := Ir 97 k) (tm := t + 1) ⟨by omega, by omega⟩ ⟨fb1, fb2⟩ ⟨by omega, by omega⟩ (fun e => hf (by rw [ekn, e]))
      have y1' := y1
      have x1' := x1
      rw [← h5] at x1' y1'
      have em : (-1 : Int32).toInt = -1 := by decide
      have no : ∀ x' y' : Int32, xEv L xs (d' + 1) 185 0 [.ref 86, .int (Ir 100 k), .int q, .int (Ir 97 k), .int (t + 1), xmk, xmk, xmk, xmk, xmk] [] (124, Ir, Jr, Rr) (some (.int x')) (124, Ir, Jr, Rr) → xEv L xs (d' + 1) 185 0 [.ref 86, .int (Ir 100 k), .int p, .int (Ir 97 k), .int (t + 1), xmk, xmk, xmk, xmk, xmk] [] (124, Ir, Jr, Rr) (some (.int y')) (124, Ir, Jr, Rr) → x'.toInt ≥ y'.toInt → xEv L xs (d' + 2) 229 0 [.ref 86, .int n, .int p, .int q, .int t] [] (124, Ir, Jr, Rr) (some (.int 0)) (124, Ir, Jr, Rr) := fun x' y' hx hy hxy => ur_2n hGr (by omega) (by omega) hf (by omega) (by omega) (by rw [ekp]; exact h) (by omega) (by omega) (by rw [ekn]; exact g) (by omega) (by omega) (by omega) (by omega) (by rw [ekn]; exact hx) (by omega) (by omega) (by omega) (by omega) (by rw [ekn]; exact hy) hxy
      have yes : ∀ x' y' : Int32, xEv L xs (d' + 1) 185 0 [.ref 86, .int (Ir 100 k), .int q, .int (Ir 97 k), .int (t + 1), xmk, xmk, xmk, xmk, xmk] [] (124, Ir, Jr, Rr) (some (.int x')) (124, Ir, Jr, Rr) → xEv L xs (d' + 1) 185 0 [.ref 86, .int (Ir 100 k), .int p, .int (Ir 97 k), .int (t + 1), xmk, xmk, xmk, xmk, xmk] [] (124, Ir, Jr, Rr) (some (.int y')) (124, Ir, Jr, Rr) → x'.toInt < y'.toInt → xEv L xs (d' + 2) 229 0 [.ref 86, .int n, .int p, .int q, .int t] [] (124, Ir, Jr, Rr) (some (.int 1)) (124, Ir, Jr, Rr) := fun x' y' hx hy hxy => ur_2y hGr (by omega) (by omega) hf (by omega) (by omega) (by rw [ekp]; exact h) (by omega) (by omega) (by rw [ekn]; exact g) (by omega) (by omega) (by omega) (by omega) (by rw [ekn]; exact hx) (by omega) (by omega) (by omega) (by omega) (by rw [ekn]; exact hy) hxy
      have x4 : x = -1 ∨ (x ≠ -1 ∧ 0 ≤ x.toInt ∧ x.toInt < l.length) := by
        rcases x3 with x3 | x3
        · exact Or.inl x3
        · exact Or.inr ⟨fun e => by rw [e, em] at x3; omega, x3.1, x3.2⟩
      have y4 : y = -1 ∨ (y ≠ -1 ∧ 0 ≤ y.toInt ∧ y.toInt < l.length) := by
        rcases y3 with y3 | y3
        · exact Or.inl y3
        · exact Or.inr ⟨fun e => by rw [e, em] at y3; omega, y3.1, y3.2⟩
      rcases x4 with x4 | ⟨x4, x5, x6⟩
      · rw [if_pos x4] at x2
        have le : (Ir 86 26).toInt ≥ (if y = -1 then Ir 86 26 else y).toInt := by
          rcases y4 with y4 | ⟨y4, y5, y6⟩
          · rw [if_pos y4]; exact Int.le_refl _
          · rw [if_neg y4]; omega
        exact ⟨0, _, _, _, _, Or.inl rfl, uw2b_23 hG c1 c2 c3 h x1' y1' g (by rw [x4, em]), no _ _ x2 y2 le, tlF_0⟩
      · rw [if_neg x4] at x2
        have xm : x.toInt ≠ -1 := by omega
        rcases y4 with y4 | ⟨y4, y5, y6⟩
        · rw [if_pos y4] at y2
          exact ⟨1, _, _, _, _, Or.inr rfl, uw2c_23 hG c1 c2 c3 h x1' y1' g xm (by rw [y4, em]), yes _ _ x2 y2 (by omega), tlF_0⟩
        · rw [if_neg y4] at y2
          have ym : y.toInt ≠ -1 := by omega
          by_cases z : x.toInt < y.toInt
          · exact ⟨1, _, _, _, _, Or.inr rfl, uw2e_23 hG c1 c2 c3 h x1' y1' g xm ym z, yes _ _ x2 y2 z, tlF_0⟩
          · exact ⟨0, _, _, _, _, Or.inl rfl, uw2d_23 hG c1 c2 c3 h x1' y1' g xm ym (by omega), no _ _ x2 y2 (by omega), tlF_0⟩
  · exact ⟨1, _, _, _, _, Or.inr rfl, uw3_23 hG c1 c2 c3 h, ur_3 hGr (by omega) (by omega) hf (by omega) (by omega) (by rw [ekp]; exact h), tlF_0⟩
  · have c4 := at_k (L := L) (xs := xs) (d := d + 3) (I := I) (J := J) (R := R) (c := 70) (m := 4) (fun _ => rfl) (by decide) hn (by omega)
    rw [hby] at c4
    by_cases g : q.toInt = (Ir 121 (21 + k)).toInt
    · exact ⟨1, _, _, _, _, Or.inr rfl, uw4y_23 hG c1 c2 c3 h c4 g, ur_4y hGr (by omega) (by omega) hf (by omega) (by omega) (by rw [ekp]; exact h) (by omega) (by omega) (by rw [ek21]; exact g), tlF_0⟩
    · exact ⟨0, _, _, _, _, Or.inl rfl, uw4n_23 hG c1 c2 c3 h c4 g, ur_4n hGr (by omega) (by omega) hf (by omega) (by omega) (by rw [ekp]; exact h) (by omega) (by omega) (by rw [ek21]; exact g), tlF_0⟩
  · have c4 := at_k (L := L) (xs := xs) (d := d + 3) (I := I) (J := J) (R := R) (c := 36) (m := 4) (fun _ => rfl) (by decide) hn (by omega)
    obtain ⟨fN, hfN⟩ := Int.eq_ofNat_of_zero_le fb1
    obtain ⟨un, m, I1, Ir1, J1, Jr1, x1, y1, fr, s4, s5, s6, gj, gr, hv⟩ := lb2_23 (L := L) (xs := xs) (d := d) (d' := d') (J := J) (Jr := Jr) hG hGr hV0 hch (nw := n) (to := Ir 97 k) (tm := t + 1) hn kn hfN (by omega) et1 (by omega)
    rw [← h5] at x1
    have b5 : (Ir 119 p.toNatClampNeg).toInt < 0 ∨ 4 < (Ir 119 p.toNatClampNeg).toInt := by rw [ekp]; omega
    by_cases g : q.toInt = (Ir 97 k).toInt
    · exact ⟨1, I1, Ir, J1, Jr, Or.inr rfl, uw5t_23 hG c1 c2 c3 h c4 x1 g, ur_5t hGr (by omega) (by omega) hf (by omega) (by omega) b5 (by omega) (by omega) (by rw [ekn]; exact g), fr.1, fr.2.1, fun _ _ _ => rfl, fun _ _ _ => rfl⟩
    · have tp := tn_pos (16 * (un - 1) - m)
      obtain ⟨o, o1, o2⟩ := qc_run (L := L) (xs := xs) (d := d + 2) (I := I1) (J := J1) hG s4 s5 s6 hq hp (by omega) (by omega) (gj.1 qN (by omega)) (gj.1 pN (by omega))
      obtain ⟨o', u1, u2⟩ := qqk_run (L := L) (xs := xs) (d := d' + 1) (I := Ir1) (J := Jr1) hGr hq hp (by omega) (by omega) (gr qN (by omega)) (gr pN (by omega))
      have lt : cV J1 un pN < cV J1 un qN ↔ rV Jr1 pN < rV Jr1 qN := by
        rw [hv pN pn, hv qN qn]
        exact ⟨fun h => Int.lt_of_mul_lt_mul_right h (Int.le_of_lt tp), fun h => Int.mul_lt_mul_of_pos_right h tp⟩
      by_cases z : rV Jr1 pN < rV Jr1 qN
      · have z' := lt.mpr z
        exact ⟨1, I1, Ir1, J1, Jr1, Or.inr rfl, uw5y_23 hG c1 c2 c3 h c4 x1 g o1 (by omega), ur_5y hGr (by omega) (by omega) hf (by omega) (by omega) b5 (by omega) (by omega) (by rw [ekn]; exact g) (by omega) (by omega) (by omega) (by omega) (by rw [ekn]; exact y1) u1 (by omega), fr⟩
      · have z' := mt lt.mp z
        exact ⟨0, I1, Ir1, J1, Jr1, Or.inl rfl, uw5n_23 hG c1 c2 c3 h c4 x1 g o1 (by omega), ur_5n hGr (by omega) (by omega) hf (by omega) (by omega) b5 (by omega) (by omega) (by rw [ekn]; exact g) (by omega) (by omega) (by omega) (by omega) (by rw [ekn]; exact y1) u1 (by omega), fr⟩
