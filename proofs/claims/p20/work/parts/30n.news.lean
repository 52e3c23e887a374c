section NE3
variable {L : Nat} {xs : Nat → Int32} {d d' : Nat} {R Rr : Nat → Nat → Nat}
theorem nwd63_3 {I : Nat → Nat → Int32} {J : Nat → Nat → Int64} (hG : aGd R) (h0 : (I 43 2).toInt ≠ 0) (a c y : Int32) (u4 : Value) : xEv L xs (d + 2) 37 63 [.ref 43, .int a, .int c, .int y, u4] [] (124, I, J, R) none (124, I, J, R) := by
  obtain ⟨z, c1⟩ := nu_dead (L := L) (xs := xs) (d := d) (I := I) (J := J) hG h0 0 99
  exact nwD63_3 hG c1 (nwD72_3 hG h0)
theorem nwd55_3 {I : Nat → Nat → Int32} {J : Nat → Nat → Int64} (hG : aGd R) (h0 : (I 43 2).toInt ≠ 0) (a c : Int32) (u3 u4 : Value) : xEv L xs (d + 2) 37 55 [.ref 43, .int a, .int c, u3, u4] [] (124, I, J, R) none (124, I, J, R) := by
  obtain ⟨z, c1⟩ := nu_dead (L := L) (xs := xs) (d := d) (I := I) (J := J) hG h0 0 95
  exact nwD55_3 hG c1 (nwd63_3 hG h0 _ _ _ _)
theorem nwd49_3 {I : Nat → Nat → Int32} {J : Nat → Nat → Int64} (hG : aGd R) (hR : R 43 1 = 4) {m : Nat} (hm : (I 3 14).toInt = m) (hm7 : m ≤ 7) (h0 : (I 43 2).toInt ≠ 0) (a : Int32) (u2 u3 u4 : Value) : xEv L xs (d + 2) 37 49 [.ref 43, .int a, u2, u3, u4] [] (124, I, J, R) none (124, I, J, R) := by
  obtain ⟨z, c1⟩ := pb_dead_3 (L := L) (xs := xs) (d := d) (J := J) hG hR hm hm7 h0 a
  exact nwD49_3 hG c1 (nwd55_3 hG h0 _ _ _ _)
theorem nwd22_3 {I : Nat → Nat → Int32} {J : Nat → Nat → Int64} (hG : aGd R) (hR : R 43 1 = 4) {m k : Nat} (hm : (I 3 14).toInt = m) (hm7 : m ≤ 7) (hk : (I 3 16).toInt = k) (hk4 : k ≤ 4) (h0 : (I 43 2).toInt ≠ 0) (a : Int32) (u2 u3 u4 : Value) : xEv L xs (d + 2) 37 22 [.ref 43, .int a, u2, u3, u4] [] (124, I, J, R) none (124, I, J, R) := by
  obtain ⟨q, c1, -⟩ := nf_run_3 (L := L) (xs := xs) (d := d) (J := J) hG hk hk4 a
  have c2 := at_run (L := L) (xs := xs) (d := d + 1) (h := (124, I, J, R)) (c := 5) (n := 7) (fun _ => rfl) (by decide) a
  generalize (if 0 ≤ a.toInt ∧ a.toInt < ((7 : Nat) : Int) then ((124, I, J, R) : xH).2.1 5 a.toNatClampNeg else 0) = r at c2
  by_cases g : q.toInt < r.toInt
  · exact nwA22_3 hG hR c1 c2 g (nwd49_3 hG hR hm hm7 h0 _ _ _ _)
  · exact nwD22_3 hG hR c1 c2 (by omega) (fl_d hG h0) (nwd49_3 hG hR hm hm7 h0 _ _ _ _)
theorem nwd16_3 {I : Nat → Nat → Int32} {J : Nat → Nat → Int64} (hG : aGd R) (hR : R 43 1 = 4) {m k : Nat} (hm : (I 3 14).toInt = m) (hm7 : m ≤ 7) (hk : (I 3 16).toInt = k) (hk4 : k ≤ 4) (h0 : (I 43 2).toInt ≠ 0) (u1 u2 u3 u4 : Value) : xEv L xs (d + 2) 37 16 [.ref 43, u1, u2, u3, u4] [] (124, I, J, R) none (124, I, J, R) := by
  obtain ⟨z, c1⟩ := pb_dead_3 (L := L) (xs := xs) (d := d) (J := J) hG hR hm hm7 h0 (-1)
  exact nwD16_3 hG c1 (nwd22_3 hG hR hm hm7 hk hk4 h0 _ _ _ _)
theorem an_run_3 {I : Nat → Nat → Int32} {J : Nat → Nat → Int64} (hG : aGd R) (h0 : 0 ≤ (I 3 16).toInt) (h7 : (I 3 16).toInt < 4) (a c y x : Int32) : xEv L xs (d + 1) 40 0 [.ref 3, .int a, .int c, .int y, .int x] [] (124, I, J, R) none (124, uI (uI (uI (uI (uI (uI I 11 (I 3 16).toNatClampNeg a) 12 (I 3 16).toNatClampNeg c) 13 (I 3 16).toNatClampNeg y) 14 (I 3 16).toNatClampNeg x) 15 (I 3 16).toNatClampNeg 0) 3 16 (I 3 16 + 1), J, R) := an_3 hG (put_in (fun _ => rfl) (by decide) a h0 h7) (put_in (fun _ => rfl) (by decide) c h0 h7) (put_in (fun _ => rfl) (by decide) y h0 h7) (put_in (fun _ => rfl) (by decide) x h0 h7) (put_in (fun _ => rfl) (by decide) 0 h0 h7)
/-- the village with one piece of news more -/
theorem PR_n_3 {b : Nat → Int32} {np nm nn : Nat} {Ic Ir : Nat → Nat → Int32} {Jc Jr : Nat → Nat → Int64} {Ic' Ir' : Nat → Nat → Int32} {Jc' Jr' : Nat → Nat → Int64} (h : PR_3 b np nm nn Ic Jc Ir Jr) (h7 : nn < 4) (a c y x : Int32) {A0 : Nat} (ha : a.toInt = A0) (ha2 : A0 < np) (hcap : (cIn (fun i => (Ic 11 i).toInt) (A0 : Int) nn : Int) < (Ic 5 A0).toInt) (hac : 0 ≤ c.toInt ∧ c.toInt < np ∧ a.toInt ≠ c.toInt)
    (e1 : (Ic' 3 16).toInt = ((nn + 1 : Nat) : Int)) (e2 : Ic' 3 14 = Ic 3 14) (e3 : Ic' 3 15 = Ic 3 15) (e4 : ∀ i, Ic' 11 i = if i = nn then a else Ic 11 i) (e5 : ∀ i, Ic' 12 i = if i = nn then c else Ic 12 i) (e6 : ∀ i, Ic' 13 i = if i = nn then y else Ic 13 i) (e7 : ∀ i, Ic' 14 i = if i = nn then x else Ic 14 i) (e7b : ∀ i, Ic' 15 i = if i = nn then 0 else Ic 15 i) (e8 : ∀ q, 3 + 2 ≤ q → q ≤ 10 → Ic' q = Ic q) (e9 : Jc' 4 = Jc 4)
    (r1 : (Ir' 88 5).toInt = ((nn + 1 : Nat) : Int)) (r2 : Ir' 88 3 = Ir 88 3) (r3 : Ir' 88 4 = Ir 88 4) (r4 : ∀ i, i ≤ nn → Ir' 96 (4 + i) = if i = nn then a else Ir 96 (4 + i)) (r5 : ∀ i, i ≤ nn → Ir' 97 (4 + i) = if i = nn then c else Ir 97 (4 + i)) (r6 : ∀ i, i ≤ nn → Ir' 98 (4 + i) = if i = nn then y else Ir 98 (4 + i)) (r7 : ∀ i, i ≤ nn → Ir' 99 (4 + i) = if i = nn then x else Ir 99 (4 + i)) (r7b : ∀ i, i ≤ nn → Ir' 100 (4 + i) = if i = nn then 0 else Ir 100 (4 + i)) (r8 : ∀ q, 90 ≤ q → q ≤ 95 → Ir' q = Ir q) (r9 : Jr' 89 = Jr 89) : PR_3 b np nm (nn + 1) Ic' Jc' Ir' Jr' := by
  obtain ⟨⟨p1, p2, p3⟩, ⟨q1, q2⟩, ⟨q3, q4⟩, ⟨q5, q6⟩, q7, q8, q9, q10, q11, q12⟩ := h
  refine ⟨⟨p1, p2, by omega⟩, ⟨by rw [e2]; exact q1, by rw [r2]; exact q2⟩, ⟨by rw [e3]; exact q3, by rw [r3]; exact q4⟩, ⟨e1, r1⟩, ?_, ?_, ?_, ?_, ?_, ?_, ?_⟩
  · intro i hi
    rw [e8 5 (by decide) (by decide), e8 6 (by decide) (by decide), r8 90 (by decide) (by decide), r8 91 (by decide) (by decide), e9, r9]
    exact q7 i hi
  · intro i hi
    rw [e8 7 (by decide) (by decide), e8 8 (by decide) (by decide), e8 9 (by decide) (by decide), e8 10 (by decide) (by decide), r8 92 (by decide) (by decide), r8 93 (by decide) (by decide), r8 94 (by decide) (by decide), r8 95 (by decide) (by decide)]
    exact q8 i hi
  · intro i hi
    rw [e4, e5, e6, e7, e7b, r4 i (by omega), r5 i (by omega), r6 i (by omega), r7 i (by omega), r7b i (by omega)]
    by_cases g : i = nn
    · simp only [if_pos g]
      exact ⟨trivial, trivial, trivial, trivial, trivial⟩
    · simp only [if_neg g]
      exact q9 i (by omega)
  · intro i hi
    rw [e4]
    by_cases g : i = nn
    · rw [if_pos g]; omega
    · rw [if_neg g]; exact q10 i (by omega)
  · intro q hq
    rw [e8 5 (by decide) (by decide)]
    have hs : cIn (fun i => (Ic' 11 i).toInt) (q : Int) (nn + 1) = cIn (fun i => (Ic' 11 i).toInt) (q : Int) nn + (if (Ic' 11 nn).toInt = (q : Int) then 1 else 0) := rfl
    have he : cIn (fun i => (Ic' 11 i).toInt) (q : Int) nn = cIn (fun i => (Ic 11 i).toInt) (q : Int) nn := cIn_e nn (fun i hi => by rw [e4, if_neg (by omega)])
    have hn : (Ic' 11 nn).toInt = A0 := by rw [e4, if_pos rfl]; exact ha
    rw [hs, he, hn]
    by_cases g : (A0 : Int) = q
    · have g2 : A0 = q := by omega
      subst g2
      rw [if_pos rfl]
      omega
    · rw [if_neg g]
      have := q11 q hq
      omega
  · rw [e8 7 (by decide) (by decide), e8 8 (by decide) (by decide)]
    exact q12.1
  · intro i hi
    rw [e4, e5]
    by_cases g : i = nn
    · rw [if_pos g, if_pos g]
      exact hac
    · rw [if_neg g, if_neg g]
      exact q12.2 i (by omega)
theorem news_3 (hG : aGd R) (hR : R 43 1 = 4) (hGr : aGd Rr) (h4 : 4 ≤ d' + 1) {b : Nat → Int32} {n st0 k0 e0 np nm nn : Nat} (hn9 : n ≤ 900) {Ic Ir : Nat → Nat → Int32} {Jc Jr : Nat → Nat → Int64} (h0 : (Ic 43 2).toInt = 0) (hc : cTok b n Ic Jc st0 k0 e0) (hr : rTok b n Ir Jr st0 k0 e0) (hP : PR_3 b np nm nn Ic Jc Ir Jr) : ∃ (Ic' : Nat → Nat → Int32) (Jc' : Nat → Nat → Int64) (Ir' : Nat → Nat → Int32) (Jr' : Nat → Nat → Int64) (w : Int32), xEv L xs (d + 6) 37 0 [.ref 43, xmk, xmk, xmk, xmk] [] (124, Ic, Jc, R) none (124, Ic', Jc', R) ∧ xEv L xs (d' + 4) 163 0 [.ref 86, xmk, xmk, xmk] [] (124, Ir, Jr, Rr) (some (.int w)) (124, Ir', Jr', Rr) ∧ CL_3 b n e0 Ic Ir Ic' Jc' Ir' Jr' w := by
  have hP0 := hP
  obtain ⟨⟨p1, p2, p3⟩, ⟨q1, q2⟩, ⟨q3, q4⟩, ⟨q5, q6⟩, q7, q8, q9, q10, q11, q12⟩ := hP
  obtain ⟨x1, x2, x3, x4, x5, x6, x7, x8⟩ := hc
  obtain ⟨y1, y2, y3, y4, y5, y6, y7, y8, y9, y10⟩ := hr
  have alc : ∀ {I I' : Nat → Nat → Int32} {J J' : Nat → Nat → Int64}, alX I I' J J' → I' 3 17 = I 3 17 ∧ I' 17 5 = I 17 5 ∧ FRc_3 I I' := fun al => ⟨al.1 3 17 (by omega) (by omega), al.1 17 5 (by omega) (by omega), fun c q t1 t2 t3 => al.1 c q (by omega) (by omega)⟩
  by_cases hfull : nn = 4
  · have cf := fl_a (L := L) (xs := xs) (d := d + 5) (I := Ic) (J := Jc) (k := 4) hG h0
    refine ⟨_, _, _, _, 0, nwA0f_3 hG hR (by omega) cf (nwd16_3 (d := d + 4) (I := uI (uI Ic 43 2 4) 43 3 (Ic 1 4)) hG hR (m := np) (k := nn) q1 p1 q5 p3 (by show ((4 : Int32)).toInt ≠ 0; decide) _ _ _ _), mw_0 hGr (by omega) (fa_run hGr), ⟨alc (alX_F (J := Jc) _ _), (by intro c q t1 t2 t3 t4 t5; repeat (first | rw [uI_n _ _ (by omega)] | rw [ar7.1 c q (by omega)] | rw [ar6.1 c q (by omega)] | rw [ar5.1 c q (by omega)] | rw [ar4.1 c q (by omega)] | rw [ar3.1 c q (by omega)] | rw [ar2.1 c q (by omega)] | rw [ar1.1 c q (by omega)] | rw [w0.1 c q (by omega)] | rw [u0.1 c q (by omega)] | rw [v2.1 c q (by omega)] | rw [z2.1 c q (by omega)]))⟩, Or.inl ⟨rfl, by show ((4 : Int32)).toInt ≠ 0; decide, rfl, ?_⟩⟩
    show (Ic 1 4).toInt = (Ir 86 5).toInt
    omega
  have hb : (Ir 88 5).toInt ≠ 4 := by omega
  -- from whom
  obtain ⟨st1, k1, e1, Ic1, Jc1, a, Ir1, Jr1, c1, d1, tk1, b1, al1, ar1, rt1, hh1⟩ := perl_3 (L := L) (xs := xs) (d := d + 2) (d' := d') hG hR hGr h4 hn9 h0 x1 x2 x7 x6 y1 y2 y8 hP0 (-1)
  have hm1 : (Ic1 3 14).toInt = np := by rw [al1.1 3 14 (by omega) (by omega)]; exact q1
  have hk1 : (Ic1 3 16).toInt = nn := by rw [al1.1 3 16 (by omega) (by omega)]; exact q5
  have cA := fun {v : Option Value} {h' : xH} (hk : xEv L xs (d + 6) 37 22 [.ref 43, .int a, xmk, xmk, xmk] [] (124, Ic1, Jc1, R) v h') => nwA0_3 hG hR (by omega) (nwA16_3 hG c1 hk)
  rcases hh1 with ⟨f1, f2, f3⟩ | ⟨f1, fk1, dz1, f2, f3⟩
  · exact ⟨_, _, _, _, 0, cA (nwd22_3 (d := d + 4) hG hR hm1 p1 hk1 p3 (by omega) _ _ _ _), mw_1 hGr hb d1 f1 (fa_run hGr), ⟨alc al1, (by intro c q t1 t2 t3 t4 t5; repeat (first | rw [uI_n _ _ (by omega)] | rw [ar7.1 c q (by omega)] | rw [ar6.1 c q (by omega)] | rw [ar5.1 c q (by omega)] | rw [ar4.1 c q (by omega)] | rw [ar3.1 c q (by omega)] | rw [ar2.1 c q (by omega)] | rw [ar1.1 c q (by omega)] | rw [w0.1 c q (by omega)] | rw [u0.1 c q (by omega)] | rw [v2.1 c q (by omega)] | rw [z2.1 c q (by omega)]))⟩, Or.inl ⟨rfl, by omega, by show _ = ((1 : Int32)).toInt; rw [f2]; rfl, f3⟩⟩
  rcases f3 with ⟨g1, g2, g3⟩ | ⟨g1, g2, g3, -⟩ | ⟨g1, g2, g3, g5, g6, ct1⟩
  · exact ⟨_, _, _, _, 0, cA (nwd22_3 (d := d + 4) hG hR hm1 p1 hk1 p3 (by omega) _ _ _ _), mw_2 hGr hb d1 f1 dz1 g1 (fa_run hGr), ⟨alc al1, (by intro c q t1 t2 t3 t4 t5; repeat (first | rw [uI_n _ _ (by omega)] | rw [ar7.1 c q (by omega)] | rw [ar6.1 c q (by omega)] | rw [ar5.1 c q (by omega)] | rw [ar4.1 c q (by omega)] | rw [ar3.1 c q (by omega)] | rw [ar2.1 c q (by omega)] | rw [ar1.1 c q (by omega)] | rw [w0.1 c q (by omega)] | rw [u0.1 c q (by omega)] | rw [v2.1 c q (by omega)] | rw [z2.1 c q (by omega)]))⟩, Or.inl ⟨rfl, by omega, by show _ = ((5 : Int32)).toInt; rw [g2]; rfl, by show _ = (Ir1 86 5).toInt; omega⟩⟩
  · have : (-1 : Int32).toInt = -1 := by decide
    omega
  -- has that one room
  obtain ⟨A0, hA0⟩ := Int.eq_ofNat_of_zero_le g1
  have hA0n : A0 < np := by omega
  have hP1 := PR_m_3 (PR_x_3 hP0 al1) (alM_S ar1)
  obtain ⟨qc, cq, eqc⟩ := nf_run_3 (L := L) (xs := xs) (d := d + 4) (J := Jc1) (I := Ic1) hG hk1 p3 a
  have cr := at_run (L := L) (xs := xs) (d := d + 5) (h := (124, Ic1, Jc1, R)) (c := 5) (n := 7) (fun _ => rfl) (by decide) a
  have eca := clamp_s (i := a) g1
  have eka : a.toNatClampNeg = A0 := by omega
  rw [if_pos ⟨g1, by omega⟩, eka] at cr
  have cr' : xEv L xs (d + 5) 39 0 [.ref 5, .int a] [] (124, Ic1, Jc1, R) (some (.int (Ic1 5 A0))) (124, Ic1, Jc1, R) := cr
  obtain ⟨qr, dq, eqr⟩ := no_run (L := L) (xs := xs) (d := d' + 3) (J := Jr1) (I := Ir1) hGr (m := nn) (by rw [ar1.1 88 5 (by omega)]; exact q6) p3 a
  have hcnt : cIn (fun i => (Ic1 11 i).toInt) a.toInt nn = cIn (fun i => (Ir1 96 (4 + i)).toInt) a.toInt nn := cIn_e nn (fun i hi => by rw [(hP1.2.2.2.2.2.2.1 i hi).1])
  have e7 : (7 + a).toInt = ((7 + A0 : Nat) : Int) := by
    rw [i_add (by rw [show (7 : Int32).toInt = 7 from by decide]; omega) (by rw [show (7 : Int32).toInt = 7 from by decide]; omega), show (7 : Int32).toInt = 7 from by decide]
    omega
  have ec7 := clamp_s (i := 7 + a) (by omega)
  have ek7 : (7 + a).toNatClampNeg = 7 + A0 := by omega
  have hho : Ic1 5 A0 = Ir1 90 (7 + A0) := (hP1.2.2.2.2.1 A0 hA0n).1
  have hcap := hP1.2.2.2.2.2.2.2.2.1 A0 hA0n
  have ha1 : a.toInt ≠ -1 := by omega
  have hqq : qc.toInt = qr.toInt := by rw [eqc, eqr, hcnt]
  have eqc' : qc.toInt = cIn (fun i => (Ic1 11 i).toInt) (A0 : Int) nn := by rw [eqc, hA0]
  by_cases hroom : qc.toInt < (Ic1 5 A0).toInt
  rotate_left
  · have cf := fl_a (L := L) (xs := xs) (d := d + 5) (I := Ic1) (J := Jc1) (k := 4) hG g5
    refine ⟨_, _, _, _, 0, cA (nwA22f_3 hG hR cq cr' (by omega) cf (nwd49_3 (d := d + 4) (I := uI (uI Ic1 43 2 4) 43 3 (Ic1 1 4)) hG hR (m := np) hm1 p1 (by show ((4 : Int32)).toInt ≠ 0; decide) _ _ _ _)), mw_3 hGr hb d1 f1 dz1 ha1 dq (by omega) (by omega) (by rw [ek7, ← hho]; omega) (fa_run hGr), ⟨alc (alX_t al1 (alX_F (J := Jc1) _ _)), (by intro c q t1 t2 t3 t4 t5; repeat (first | rw [uI_n _ _ (by omega)] | rw [ar7.1 c q (by omega)] | rw [ar6.1 c q (by omega)] | rw [ar5.1 c q (by omega)] | rw [ar4.1 c q (by omega)] | rw [ar3.1 c q (by omega)] | rw [ar2.1 c q (by omega)] | rw [ar1.1 c q (by omega)] | rw [w0.1 c q (by omega)] | rw [u0.1 c q (by omega)] | rw [v2.1 c q (by omega)] | rw [z2.1 c q (by omega)]))⟩, Or.inl ⟨rfl, by show ((4 : Int32)).toInt ≠ 0; decide, rfl, ?_⟩⟩
    show (Ic1 1 4).toInt = (Ir1 86 5).toInt
    rw [ct1.2.2.2.1]
    omega
  have hnr : qr.toInt ≠ (Ir1 90 (7 + a).toNatClampNeg).toInt := by rw [ek7, ← hho]; omega
  -- for whom
  obtain ⟨st2, k2, e2, Ic2, Jc2, c, Ir2, Jr2, c2, d2, tk2, b2, al2, ar2, rt2, hh2⟩ := perl_3 (L := L) (xs := xs) (d := d + 2) (d' := d') hG hR hGr h4 hn9 g5 ct1.1 ct1.2.1 b1 ct1.2.2.2.2.2.1 rt1.1 rt1.2.1 rt1.2.2.2.2.2.2.2.1 hP1 a
  have cB := fun {v : Option Value} {h' : xH} (hk : xEv L xs (d + 6) 37 55 [.ref 43, .int a, .int c, xmk, xmk] [] (124, Ic2, Jc2, R) v h') => cA (nwA22_3 hG hR cq cr' hroom (nwA49_3 hG c2 hk))
  have al12 := alX_t al1 al2
  rcases hh2 with ⟨f4, f5, f6⟩ | ⟨f4, fk2, dz2, f5, f6⟩
  · exact ⟨_, _, _, _, 0, cB (nwd55_3 (d := d + 4) hG (by omega) _ _ _ _), mw_4 hGr hb d1 f1 dz1 ha1 dq (by omega) (by omega) hnr d2 f4 (fa_run hGr), ⟨alc al12, (by intro c q t1 t2 t3 t4 t5; repeat (first | rw [uI_n _ _ (by omega)] | rw [ar7.1 c q (by omega)] | rw [ar6.1 c q (by omega)] | rw [ar5.1 c q (by omega)] | rw [ar4.1 c q (by omega)] | rw [ar3.1 c q (by omega)] | rw [ar2.1 c q (by omega)] | rw [ar1.1 c q (by omega)] | rw [w0.1 c q (by omega)] | rw [u0.1 c q (by omega)] | rw [v2.1 c q (by omega)] | rw [z2.1 c q (by omega)]))⟩, Or.inl ⟨rfl, by omega, by show _ = ((1 : Int32)).toInt; rw [f5]; rfl, f6⟩⟩
  rcases f6 with ⟨u1, u2, u3⟩ | ⟨u1, u2, u3, u4, u5⟩ | ⟨u1, u2, u3, u4, u5, ct2⟩
  · exact ⟨_, _, _, _, 0, cB (nwd55_3 (d := d + 4) hG (by omega) _ _ _ _), mw_6 hGr hb d1 f1 dz1 ha1 dq (by omega) (by omega) hnr d2 f4 dz2 (by omega) u1 (fa_run hGr), ⟨alc al12, (by intro c q t1 t2 t3 t4 t5; repeat (first | rw [uI_n _ _ (by omega)] | rw [ar7.1 c q (by omega)] | rw [ar6.1 c q (by omega)] | rw [ar5.1 c q (by omega)] | rw [ar4.1 c q (by omega)] | rw [ar3.1 c q (by omega)] | rw [ar2.1 c q (by omega)] | rw [ar1.1 c q (by omega)] | rw [w0.1 c q (by omega)] | rw [u0.1 c q (by omega)] | rw [v2.1 c q (by omega)] | rw [z2.1 c q (by omega)]))⟩, Or.inl ⟨rfl, by omega, by show _ = ((5 : Int32)).toInt; rw [u2]; rfl, by show _ = (Ir2 86 5).toInt; omega⟩⟩
  · exact ⟨_, _, _, _, 0, cB (nwd55_3 (d := d + 4) hG (by omega) _ _ _ _), mw_5 hGr hb d1 f1 dz1 ha1 dq (by omega) (by omega) hnr d2 f4 dz2 u3 (fa_run hGr), ⟨alc al12, (by intro c q t1 t2 t3 t4 t5; repeat (first | rw [uI_n _ _ (by omega)] | rw [ar7.1 c q (by omega)] | rw [ar6.1 c q (by omega)] | rw [ar5.1 c q (by omega)] | rw [ar4.1 c q (by omega)] | rw [ar3.1 c q (by omega)] | rw [ar2.1 c q (by omega)] | rw [ar1.1 c q (by omega)] | rw [w0.1 c q (by omega)] | rw [u0.1 c q (by omega)] | rw [v2.1 c q (by omega)] | rw [z2.1 c q (by omega)]))⟩, Or.inl ⟨rfl, by omega, by show _ = ((3 : Int32)).toInt; rw [u4]; rfl, by show _ = (Ir2 86 5).toInt; omega⟩⟩
  -- by which hour
  have hc1 : c.toInt ≠ -1 := by omega
  obtain ⟨st3, k3, e3, Ir3, Jr3, d3, tk3, rt3, ar3⟩ := sk_run (L := L) (xs := xs) (d := d' + 1) (R := Rr) (b := b) (n := n) (p := e2) (I := Ir2) (J := Jr2) hGr (by omega) hn9 rt2.1 rt2.2.1 b2 rt2.2.2.2.2.2.2.2.1
  obtain ⟨Ic3, Jc3, y, c3, al3, hh3⟩ := numl (L := L) (xs := xs) (d := d + 2) (d' := d') hG hGr h4 hn9 u4 ct2.1 ct2.2.1 b2 ct2.2.2.2.2.2.1 tk3 rt3 0 95
  have cC := fun {v : Option Value} {h' : xH} (hk : xEv L xs (d + 6) 37 63 [.ref 43, .int a, .int c, .int y, xmk] [] (124, Ic3, Jc3, R) v h') => cB (nwA55_3 hG c3 hk)
  have al123 := alX_t al12 al3
  rcases hh3 with ⟨v1, Ir4, d4, v2, v3, v4⟩ | ⟨v1, v2, ct3, vk3, v3, v4, st4, k4, e4, Ir4, Jr4, d4, tk4, rt4, v5, v6, v7, ar4⟩
  · exact ⟨_, _, _, _, 0, cC (nwd63_3 (d := d + 4) hG v1 _ _ _ _), mw_7 hGr hb d1 f1 dz1 ha1 dq (by omega) (by omega) hnr d2 f4 dz2 (by omega) hc1 d3 d4, ⟨alc al123, (by intro c q t1 t2 t3 t4 t5; repeat (first | rw [uI_n _ _ (by omega)] | rw [ar7.1 c q (by omega)] | rw [ar6.1 c q (by omega)] | rw [ar5.1 c q (by omega)] | rw [ar4.1 c q (by omega)] | rw [ar3.1 c q (by omega)] | rw [ar2.1 c q (by omega)] | rw [ar1.1 c q (by omega)] | rw [w0.1 c q (by omega)] | rw [u0.1 c q (by omega)] | rw [v2.1 c q (by omega)] | rw [z2.1 c q (by omega)]))⟩, Or.inl ⟨rfl, v1, v3, v4⟩⟩
  -- what it is worth
  have e4n : (4 + Ir 88 5).toInt = ((4 + nn : Nat) : Int) := by
    rw [i_add (by rw [show (4 : Int32).toInt = 4 from by decide]; omega) (by rw [show (4 : Int32).toInt = 4 from by decide]; omega), show (4 : Int32).toInt = 4 from by decide]
    omega
  have ec4 := clamp_s (i := 4 + Ir 88 5) (by omega)
  have ek4 : (4 + Ir 88 5).toNatClampNeg = 4 + nn := by omega
  have m0 : 0 ≤ (4 + Ir 88 5).toInt := by omega
  have m1 : (4 + Ir 88 5).toInt < 8 := by omega
  have e3n : e3 ≤ n := rt3.2.2.2.2.2.2.2.2.1
  have rts : rTok b n (uI Ir4 98 (4 + Ir 88 5).toNatClampNeg (Ir4 86 11)) Jr4 st4 k4 e4 := rTok_c rt4 (fun _ => rfl) (fun _ => rfl) rfl
  obtain ⟨Ic4, Jc4, x, c4, al4, hh4⟩ := numl (L := L) (xs := xs) (d := d + 2) (d' := d') hG hGr h4 hn9 v1 ct3.1 ct3.2.1 e3n ct3.2.2.2.2.2.1 tk4 rts 0 99
  have cD := fun {v : Option Value} {h' : xH} (hk : xEv L xs (d + 6) 37 72 [.ref 43, .int a, .int c, .int y, .int x] [] (124, Ic4, Jc4, R) v h') => cC (nwA63_3 hG c4 hk)
  have al4' := alX_t al123 al4
  rcases hh4 with ⟨z1, Ir5, d5, z2, z3, z4⟩ | ⟨z1, z2, ct4, zk4, z3, z4, st5, k5, e5, Ir5, Jr5, d5, tk5, rt5, z5, z6, z7, ar5⟩
  · exact ⟨_, _, _, _, 0, cD (nwD72_3 hG z1), mw_8 hGr hb d1 f1 dz1 ha1 dq (by omega) (by omega) hnr d2 f4 dz2 (by omega) hc1 d3 d4 m0 m1 d5, ⟨alc al4', (by intro c q t1 t2 t3 t4 t5; repeat (first | rw [uI_n _ _ (by omega)] | rw [ar7.1 c q (by omega)] | rw [ar6.1 c q (by omega)] | rw [ar5.1 c q (by omega)] | rw [ar4.1 c q (by omega)] | rw [ar3.1 c q (by omega)] | rw [ar2.1 c q (by omega)] | rw [ar1.1 c q (by omega)] | rw [w0.1 c q (by omega)] | rw [u0.1 c q (by omega)] | rw [v2.1 c q (by omega)] | rw [z2.1 c q (by omega)]))⟩, Or.inl ⟨rfl, z1, z3, z4⟩⟩
  have hrow : ∀ q, q ≠ 86 → Ir4 q = Ir q := fun q hq => funext fun i => by rw [ar4.1 q i (by omega), ar3.1 q i (by omega), ar2.1 q i (by omega), ar1.1 q i (by omega)]
  have hrow5 : ∀ q, q ≠ 86 → Ir5 q = uI Ir4 98 (4 + nn) (Ir4 86 11) q := fun q hq => funext fun i => by rw [ar5.1 q i (by omega), ek4]
  have hJ5 : Jr5 89 = Jr 89 := funext fun i => by rw [ar5.2 89 i (by omega), ar4.2 89 i (by omega), ar3.2 89 i (by omega), ar2.2 89 i (by omega), ar1.2 89 i (by omega)]
  have w8 : Ir5 86 8 = Ir 86 8 := by rw [z6]; show Ir4 86 8 = _; rw [v6, ar3.1 86 8 (by omega), ar2.1 86 8 (by omega), ar1.1 86 8 (by omega)]
  have w9 : Ir5 86 9 = Ir 86 9 := by rw [z7]; show Ir4 86 9 = _; rw [v7, ar3.1 86 9 (by omega), ar2.1 86 9 (by omega), ar1.1 86 9 (by omega)]
  have h16 : (Ic4 3 16).toInt = nn := by rw [al4'.1 3 16 (by omega) (by omega)]; exact q5
  have ecf := clamp_s (i := Ic4 3 16) (by omega)
  have ekf : (Ic4 3 16).toNatClampNeg = nn := by omega
  have ean := an_run_3 (L := L) (xs := xs) (d := d + 4) (I := Ic4) (J := Jc4) hG (by omega) (by omega) a c y x
  -- the class goes on to the token behind
  have e4le : e4 ≤ n := rt4.2.2.2.2.2.2.2.2.1
  obtain ⟨st6, k6, e6, Ic6, Jc6, c6, tk6, w1, w2, w3, w4, w5, w6, w7, al6⟩ := ad_run (L := L) (xs := xs) (d := d + 4) (R := R) hG hn9 (I := uI (uI (uI (uI (uI (uI Ic4 11 (Ic4 3 16).toNatClampNeg a) 12 (Ic4 3 16).toNatClampNeg c) 13 (Ic4 3 16).toNatClampNeg y) 14 (Ic4 3 16).toNatClampNeg x) 15 (Ic4 3 16).toNatClampNeg 0) 3 16 (Ic4 3 16 + 1)) (J := Jc4) ct4.1 ct4.2.1 e4le
  have hbA : bX (uI (uI (uI (uI (uI (uI Ic4 11 (Ic4 3 16).toNatClampNeg a) 12 (Ic4 3 16).toNatClampNeg c) 13 (Ic4 3 16).toNatClampNeg y) 14 (Ic4 3 16).toNatClampNeg x) 15 (Ic4 3 16).toNatClampNeg 0) 3 16 (Ic4 3 16 + 1)) n = b := by rw [← ct4.2.2.2.2.2.1]; rfl
  rw [hbA] at tk6 w7
  obtain ⟨t1, t2, t3⟩ := isTok_u tk5 tk6
  subst t1
  subst t2
  subst t3
  have p5 : e0 ≤ e5 := by
    have j1 := tok_prog tk1 (by omega)
    have j2 := tok_prog tk2 (by omega)
    have j3 := tok_prog tk3 (by omega)
    have j4 := tok_prog tk4 (by omega)
    have j5 := tk5.1.1
    omega
  refine ⟨Ic6, Jc6, _, _, 1, cD (nwA72_3 hG z1 hR ean c6), mw_9 hGr hb d1 f1 dz1 ha1 dq (by omega) (by omega) hnr d2 f4 dz2 (by omega) hc1 d3 d4 m0 m1 d5 m0 m1 m0 m1 m0 m1 m0 m1, ?_⟩
  rw [ek4]
  rw [ekf] at al6
  have e1 := i_add1 (x := Ic4 3 16) (by omega)
  have eI : ∀ q, (3 ≤ q ∧ q ≤ 17) → Ic4 q = Ic q := fun q hq => funext fun i => al4'.1 q i (by omega) (by omega)
  have f6 : ∀ q, (3 ≤ q ∧ q ≤ 17) → Ic6 q = (uI (uI (uI (uI (uI (uI Ic4 11 nn a) 12 nn c) 13 nn y) 14 nn x) 15 nn 0) 3 16 (Ic4 3 16 + 1)) q := fun q hq => funext fun i => al6.1 q i (by omega)
  refine ⟨⟨⟨?_, ?_, fun c q t1 t2 t3 => by rw [al6.1 c q (by omega), uI_n _ _ (by omega), uI_n _ _ (by omega), uI_n _ _ (by omega), uI_n _ _ (by omega), uI_n _ _ (by omega), uI_n _ _ (by omega), al4'.1 c q (by omega) (by omega)]⟩, (by intro c q t1 t2 t3 t4 t5; repeat (first | rw [uI_n _ _ (by omega)] | rw [ar7.1 c q (by omega)] | rw [ar6.1 c q (by omega)] | rw [ar5.1 c q (by omega)] | rw [ar4.1 c q (by omega)] | rw [ar3.1 c q (by omega)] | rw [ar2.1 c q (by omega)] | rw [ar1.1 c q (by omega)] | rw [w0.1 c q (by omega)] | rw [u0.1 c q (by omega)] | rw [v2.1 c q (by omega)] | rw [z2.1 c q (by omega)]))⟩, Or.inr ⟨rfl, ?_, ?_, w8, w9, st5, k5, e5, np, nm, nn + 1, p5, ⟨?_, w4, w5, w6, w7, by rw [alT_b al6]; exact (by rw [← ct4.2.2.2.2.2.1]; rfl), w2, w3⟩, rTok_c rt5 (fun _ => rfl) (fun _ => rfl) rfl, ?_⟩⟩
  · rw [f6 3 (by decide)]; show Ic4 3 17 = _; rw [eI 3 (by decide)]
  · rw [f6 17 (by decide)]; show Ic4 17 5 = _; rw [eI 17 (by decide)]
  · rw [al6.1 43 2 (by omega)]; exact z1
  · rw [al6.1 43 3 (by omega)]; show Ic4 43 3 = _; rw [z2, v2, u5, g6]
  · rw [al6.1 1 1 (by omega)]; exact ct4.1
  refine PR_n_3 hP0 (by omega) a c y x hA0 hA0n ?_ (by omega) ?_ ?_ ?_ ?_ ?_ ?_ ?_ ?_ ?_ ?_ ?_ ?_ ?_ ?_ ?_ ?_ ?_ ?_ ?_ hJ5
  · have g1' : (cIn (fun i => (Ic1 11 i).toInt) (A0 : Int) nn : Int) < (Ic1 5 A0).toInt := by omega
    have k8 : Ic1 11 = Ic 11 := funext fun i => al1.1 11 i (by omega) (by omega)
    have k2' : Ic1 5 = Ic 5 := funext fun i => al1.1 5 i (by omega) (by omega)
    rw [k8, k2'] at g1'
    exact g1'
  · rw [f6 3 (by decide)]; show (Ic4 3 16 + 1).toInt = _; omega
  · rw [f6 3 (by decide)]; show Ic4 3 14 = _; rw [eI 3 (by decide)]
  · rw [f6 3 (by decide)]; show Ic4 3 15 = _; rw [eI 3 (by decide)]
  · intro i
    rw [f6 11 (by decide)]
    show uI Ic4 11 nn a 11 i = _
    by_cases g : i = nn
    · rw [if_pos g, g, uI_s]
    · rw [if_neg g, uI_n _ _ (by omega), eI 11 (by decide)]
  · intro i
    rw [f6 12 (by decide)]
    show uI (uI Ic4 11 nn a) 12 nn c 12 i = _
    by_cases g : i = nn
    · rw [if_pos g, g, uI_s]
    · rw [if_neg g, uI_n _ _ (by omega), uI_n _ _ (by omega), eI 12 (by decide)]
  · intro i
    rw [f6 13 (by decide)]
    show uI (uI (uI Ic4 11 nn a) 12 nn c) 13 nn y 13 i = _
    by_cases g : i = nn
    · rw [if_pos g, g, uI_s]
    · rw [if_neg g, uI_n _ _ (by omega), uI_n _ _ (by omega), uI_n _ _ (by omega), eI 13 (by decide)]
  · intro i
    rw [f6 14 (by decide)]
    show uI (uI (uI (uI Ic4 11 nn a) 12 nn c) 13 nn y) 14 nn x 14 i = _
    by_cases g : i = nn
    · rw [if_pos g, g, uI_s]
    · rw [if_neg g, uI_n _ _ (by omega), uI_n _ _ (by omega), uI_n _ _ (by omega), uI_n _ _ (by omega), eI 14 (by decide)]
  · intro i
    rw [f6 15 (by decide)]
    show uI (uI (uI (uI (uI Ic4 11 nn a) 12 nn c) 13 nn y) 14 nn x) 15 nn 0 15 i = _
    by_cases g : i = nn
    · rw [if_pos g, g, uI_s]
    · rw [if_neg g, uI_n _ _ (by omega), uI_n _ _ (by omega), uI_n _ _ (by omega), uI_n _ _ (by omega), uI_n _ _ (by omega), eI 15 (by decide)]
  · intro q h1 h2
    rw [f6 q (by omega), ← eI q (by omega)]
    funext i
    rw [uI_n _ _ (by omega), uI_n _ _ (by omega), uI_n _ _ (by omega), uI_n _ _ (by omega), uI_n _ _ (by omega), uI_n _ _ (by omega)]
  · funext i
    rw [al6.2 4 i (by omega), al4'.2 4 i (by omega)]
  · show (Ir5 88 5 + 1).toInt = _
    rw [hrow5 88 (by decide)]
    show (Ir4 88 5 + 1).toInt = _
    rw [hrow 88 (by decide)]
    have := i_add1 (x := Ir 88 5) (by omega)
    omega
  · show Ir5 88 3 = _
    rw [hrow5 88 (by decide)]
    show Ir4 88 3 = _
    rw [hrow 88 (by decide)]
  · show Ir5 88 4 = _
    rw [hrow5 88 (by decide)]
    show Ir4 88 4 = _
    rw [hrow 88 (by decide)]
  · intro i hi
    show uI (uI Ir5 99 (4 + nn) (Ir5 86 11)) 96 (4 + nn) a 96 (4 + i) = _
    by_cases g : i = nn
    · rw [if_pos g, g, uI_s]
    · rw [if_neg g, uI_n _ _ (by omega), uI_n _ _ (by omega), hrow5 96 (by decide), uI_n _ _ (by omega), hrow 96 (by decide)]
  · intro i hi
    show uI (uI (uI Ir5 99 (4 + nn) (Ir5 86 11)) 96 (4 + nn) a) 97 (4 + nn) c 97 (4 + i) = _
    by_cases g : i = nn
    · rw [if_pos g, g, uI_s]
    · rw [if_neg g, uI_n _ _ (by omega), uI_n _ _ (by omega), uI_n _ _ (by omega), hrow5 97 (by decide), uI_n _ _ (by omega), hrow 97 (by decide)]
  · intro i hi
    show Ir5 98 (4 + i) = _
    rw [hrow5 98 (by decide)]
    by_cases g : i = nn
    · rw [if_pos g, g, uI_s, v5]
    · rw [if_neg g, uI_n _ _ (by omega), hrow 98 (by decide)]
  · intro i hi
    show uI Ir5 99 (4 + nn) (Ir5 86 11) 99 (4 + i) = _
    by_cases g : i = nn
    · rw [if_pos g, g, uI_s, z5]
    · rw [if_neg g, uI_n _ _ (by omega), hrow5 99 (by decide), uI_n _ _ (by omega), hrow 99 (by decide)]
  · intro i hi
    show uI (uI (uI (uI Ir5 99 (4 + nn) (Ir5 86 11)) 96 (4 + nn) a) 97 (4 + nn) c) 100 (4 + nn) 0 100 (4 + i) = _
    by_cases g : i = nn
    · rw [if_pos g, g, uI_s]
    · rw [if_neg g, uI_n _ _ (by omega), uI_n _ _ (by omega), uI_n _ _ (by omega), uI_n _ _ (by omega), hrow5 100 (by decide), uI_n _ _ (by omega), hrow 100 (by decide)]
  · intro q h1 h2
    have hz : (uI (uI (uI (uI (uI Ir5 99 (4 + nn) (Ir5 86 11)) 96 (4 + nn) a) 97 (4 + nn) c) 100 (4 + nn) 0) 88 5 (Ir5 88 5 + 1)) q = Ir5 q := by
      funext i
      rw [uI_n _ _ (by omega), uI_n _ _ (by omega), uI_n _ _ (by omega), uI_n _ _ (by omega), uI_n _ _ (by omega)]
    rw [hz, hrow5 q (by omega), ← hrow q (by omega)]
    funext i
    rw [uI_n _ _ (by omega)]
end NE3
section NE23
variable {L : Nat} {xs : Nat → Int32} {d d' : Nat} {R Rr : Nat → Nat → Nat}
theorem nwd63_23 {I : Nat → Nat → Int32} {J : Nat → Nat → Int64} (hG : aGd R) (h0 : (I 43 2).toInt ≠ 0) (a c y : Int32) (u4 : Value) : xEv L xs (d + 2) 37 63 [.ref 43, .int a, .int c, .int y, u4] [] (124, I, J, R) none (124, I, J, R) := by
  obtain ⟨z, c1⟩ := nu_dead (L := L) (xs := xs) (d := d) (I := I) (J := J) hG h0 0 99
  exact nwD63_23 hG c1 (nwD72_23 hG h0)
theorem nwd55_23 {I : Nat → Nat → Int32} {J : Nat → Nat → Int64} (hG : aGd R) (h0 : (I 43 2).toInt ≠ 0) (a c : Int32) (u3 u4 : Value) : xEv L xs (d + 2) 37 55 [.ref 43, .int a, .int c, u3, u4] [] (124, I, J, R) none (124, I, J, R) := by
  obtain ⟨z, c1⟩ := nu_dead (L := L) (xs := xs) (d := d) (I := I) (J := J) hG h0 0 95
  exact nwD55_23 hG c1 (nwd63_23 hG h0 _ _ _ _)
theorem nwd49_23 {I : Nat → Nat → Int32} {J : Nat → Nat → Int64} (hG : aGd R) (hR : R 43 1 = 24) {m : Nat} (hm : (I 23 14).toInt = m) (hm7 : m ≤ 7) (h0 : (I 43 2).toInt ≠ 0) (a : Int32) (u2 u3 u4 : Value) : xEv L xs (d + 2) 37 49 [.ref 43, .int a, u2, u3, u4] [] (124, I, J, R) none (124, I, J, R) := by
  obtain ⟨z, c1⟩ := pb_dead_23 (L := L) (xs := xs) (d := d) (J := J) hG hR hm hm7 h0 a
  exact nwD49_23 hG c1 (nwd55_23 hG h0 _ _ _ _)
theorem nwd22_23 {I : Nat → Nat → Int32} {J : Nat → Nat → Int64} (hG : aGd R) (hR : R 43 1 = 24) {m k : Nat} (hm : (I 23 14).toInt = m) (hm7 : m ≤ 7) (hk : (I 23 16).toInt = k) (hk4 : k ≤ 4) (h0 : (I 43 2).toInt ≠ 0) (a : Int32) (u2 u3 u4 : Value) : xEv L xs (d + 2) 37 22 [.ref 43, .int a, u2, u3, u4] [] (124, I, J, R) none (124, I, J, R) := by
  obtain ⟨q, c1, -⟩ := nf_run_23 (L := L) (xs := xs) (d := d) (J := J) hG hk hk4 a
  have c2 := at_run (L := L) (xs := xs) (d := d + 1) (h := (124, I, J, R)) (c := 25) (n := 7) (fun _ => rfl) (by decide) a
  generalize (if 0 ≤ a.toInt ∧ a.toInt < ((7 : Nat) : Int) then ((124, I, J, R) : xH).2.1 25 a.toNatClampNeg else 0) = r at c2
  by_cases g : q.toInt < r.toInt
  · exact nwA22_23 hG hR c1 c2 g (nwd49_23 hG hR hm hm7 h0 _ _ _ _)
  · exact nwD22_23 hG hR c1 c2 (by omega) (fl_d hG h0) (nwd49_23 hG hR hm hm7 h0 _ _ _ _)
theorem nwd16_23 {I : Nat → Nat → Int32} {J : Nat → Nat → Int64} (hG : aGd R) (hR : R 43 1 = 24) {m k : Nat} (hm : (I 23 14).toInt = m) (hm7 : m ≤ 7) (hk : (I 23 16).toInt = k) (hk4 : k ≤ 4) (h0 : (I 43 2).toInt ≠ 0) (u1 u2 u3 u4 : Value) : xEv L xs (d + 2) 37 16 [.ref 43, u1, u2, u3, u4] [] (124, I, J, R) none (124, I, J, R) := by
  obtain ⟨z, c1⟩ := pb_dead_23 (L := L) (xs := xs) (d := d) (J := J) hG hR hm hm7 h0 (-1)
  exact nwD16_23 hG c1 (nwd22_23 hG hR hm hm7 hk hk4 h0 _ _ _ _)
theorem an_run_23 {I : Nat → Nat → Int32} {J : Nat → Nat → Int64} (hG : aGd R) (h0 : 0 ≤ (I 23 16).toInt) (h7 : (I 23 16).toInt < 4) (a c y x : Int32) : xEv L xs (d + 1) 40 0 [.ref 23, .int a, .int c, .int y, .int x] [] (124, I, J, R) none (124, uI (uI (uI (uI (uI (uI I 31 (I 23 16).toNatClampNeg a) 32 (I 23 16).toNatClampNeg c) 33 (I 23 16).toNatClampNeg y) 34 (I 23 16).toNatClampNeg x) 35 (I 23 16).toNatClampNeg 0) 23 16 (I 23 16 + 1), J, R) := an_23 hG (put_in (fun _ => rfl) (by decide) a h0 h7) (put_in (fun _ => rfl) (by decide) c h0 h7) (put_in (fun _ => rfl) (by decide) y h0 h7) (put_in (fun _ => rfl) (by decide) x h0 h7) (put_in (fun _ => rfl) (by decide) 0 h0 h7)
/-- the village with one piece of news more -/
theorem PR_n_23 {b : Nat → Int32} {np nm nn : Nat} {Ic Ir : Nat → Nat → Int32} {Jc Jr : Nat → Nat → Int64} {Ic' Ir' : Nat → Nat → Int32} {Jc' Jr' : Nat → Nat → Int64} (h : PR_23 b np nm nn Ic Jc Ir Jr) (h7 : nn < 4) (a c y x : Int32) {A0 : Nat} (ha : a.toInt = A0) (ha2 : A0 < np) (hcap : (cIn (fun i => (Ic 31 i).toInt) (A0 : Int) nn : Int) < (Ic 25 A0).toInt) (hac : 0 ≤ c.toInt ∧ c.toInt < np ∧ a.toInt ≠ c.toInt)
    (e1 : (Ic' 23 16).toInt = ((nn + 1 : Nat) : Int)) (e2 : Ic' 23 14 = Ic 23 14) (e3 : Ic' 23 15 = Ic 23 15) (e4 : ∀ i, Ic' 31 i = if i = nn then a else Ic 31 i) (e5 : ∀ i, Ic' 32 i = if i = nn then c else Ic 32 i) (e6 : ∀ i, Ic' 33 i = if i = nn then y else Ic 33 i) (e7 : ∀ i, Ic' 34 i = if i = nn then x else Ic 34 i) (e7b : ∀ i, Ic' 35 i = if i = nn then 0 else Ic 35 i) (e8 : ∀ q, 23 + 2 ≤ q → q ≤ 30 → Ic' q = Ic q) (e9 : Jc' 24 = Jc 24)
    (r1 : (Ir' 88 5).toInt = ((nn + 1 : Nat) : Int)) (r2 : Ir' 88 3 = Ir 88 3) (r3 : Ir' 88 4 = Ir 88 4) (r4 : ∀ i, i ≤ nn → Ir' 96 (4 + i) = if i = nn then a else Ir 96 (4 + i)) (r5 : ∀ i, i ≤ nn → Ir' 97 (4 + i) = if i = nn then c else Ir 97 (4 + i)) (r6 : ∀ i, i ≤ nn → Ir' 98 (4 + i) = if i = nn then y else Ir 98 (4 + i)) (r7 : ∀ i, i ≤ nn → Ir' 99 (4 + i) = if i = nn then x else Ir 99 (4 + i)) (r7b : ∀ i, i ≤ nn → Ir' 100 (4 + i) = if i = nn then 0 else Ir 100 (4 + i)) (r8 : ∀ q, 90 ≤ q → q ≤ 95 → Ir' q = Ir q) (r9 : Jr' 89 = Jr 89) : PR_23 b np nm (nn + 1) Ic' Jc' Ir' Jr' := by
  obtain ⟨⟨p1, p2, p3⟩, ⟨q1, q2⟩, ⟨q3, q4⟩, ⟨q5, q6⟩, q7, q8, q9, q10, q11, q12⟩ := h
  refine ⟨⟨p1, p2, by omega⟩, ⟨by rw [e2]; exact q1, by rw [r2]; exact q2⟩, ⟨by rw [e3]; exact q3, by rw [r3]; exact q4⟩, ⟨e1, r1⟩, ?_, ?_, ?_, ?_, ?_, ?_, ?_⟩
  · intro i hi
    rw [e8 25 (by decide) (by decide), e8 26 (by decide) (by decide), r8 90 (by decide) (by decide), r8 91 (by decide) (by decide), e9, r9]
    exact q7 i hi
  · intro i hi
    rw [e8 27 (by decide) (by decide), e8 28 (by decide) (by decide), e8 29 (by decide) (by decide), e8 30 (by decide) (by decide), r8 92 (by decide) (by decide), r8 93 (by decide) (by decide), r8 94 (by decide) (by decide), r8 95 (by decide) (by decide)]
    exact q8 i hi
  · intro i hi
    rw [e4, e5, e6, e7, e7b, r4 i (by omega), r5 i (by omega), r6 i (by omega), r7 i (by omega), r7b i (by omega)]
    by_cases g : i = nn
    · simp only [if_pos g]
      exact ⟨trivial, trivial, trivial, trivial, trivial⟩
    · simp only [if_neg g]
      exact q9 i (by omega)
  · intro i hi
    rw [e4]
    by_cases g : i = nn
    · rw [if_pos g]; omega
    · rw [if_neg g]; exact q10 i (by omega)
  · intro q hq
    rw [e8 25 (by decide) (by decide)]
    have hs : cIn (fun i => (Ic' 31 i).toInt) (q : Int) (nn + 1) = cIn (fun i => (Ic' 31 i).toInt) (q : Int) nn + (if (Ic' 31 nn).toInt = (q : Int) then 1 else 0) := rfl
    have he : cIn (fun i => (Ic' 31 i).toInt) (q : Int) nn = cIn (fun i => (Ic 31 i).toInt) (q : Int) nn := cIn_e nn (fun i hi => by rw [e4, if_neg (by omega)])
    have hn : (Ic' 31 nn).toInt = A0 := by rw [e4, if_pos rfl]; exact ha
    rw [hs, he, hn]
    by_cases g : (A0 : Int) = q
    · have g2 : A0 = q := by omega
      subst g2
      rw [if_pos rfl]
      omega
    · rw [if_neg g]
      have := q11 q hq
      omega
  · rw [e8 27 (by decide) (by decide), e8 28 (by decide) (by decide)]
    exact q12.1
  · intro i hi
    rw [e4, e5]
    by_cases g : i = nn
    · rw [if_pos g, if_pos g]
      exact hac
    · rw [if_neg g, if_neg g]
      exact q12.2 i (by omega)
theorem news_23 (hG : aGd R) (hR : R 43 1 = 24) (hGr : aGd Rr) (h4 : 4 ≤ d' + 1) {b : Nat → Int32} {n st0 k0 e0 np nm nn : Nat} (hn9 : n ≤ 900) {Ic Ir : Nat → Nat → Int32} {Jc Jr : Nat → Nat → Int64} (h0 : (Ic 43 2).toInt = 0) (hc : cTok b n Ic Jc st0 k0 e0) (hr : rTok b n Ir Jr st0 k0 e0) (hP : PR_23 b np nm nn Ic Jc Ir Jr) : ∃ (Ic' : Nat → Nat → Int32) (Jc' : Nat → Nat → Int64) (Ir' : Nat → Nat → Int32) (Jr' : Nat → Nat → Int64) (w : Int32), xEv L xs (d + 6) 37 0 [.ref 43, xmk, xmk, xmk, xmk] [] (124, Ic, Jc, R) none (124, Ic', Jc', R) ∧ xEv L xs (d' + 4) 163 0 [.ref 86, xmk, xmk, xmk] [] (124, Ir, Jr, Rr) (some (.int w)) (124, Ir', Jr', Rr) ∧ CL_23 b n e0 Ic Ir Ic' Jc' Ir' Jr' w := by
  have hP0 := hP
  obtain ⟨⟨p1, p2, p3⟩, ⟨q1, q2⟩, ⟨q3, q4⟩, ⟨q5, q6⟩, q7, q8, q9, q10, q11, q12⟩ := hP
  obtain ⟨x1, x2, x3, x4, x5, x6, x7, x8⟩ := hc
  obtain ⟨y1, y2, y3, y4, y5, y6, y7, y8, y9, y10⟩ := hr
  have alc : ∀ {I I' : Nat → Nat → Int32} {J J' : Nat → Nat → Int64}, alX I I' J J' → I' 23 17 = I 23 17 ∧ I' 37 5 = I 37 5 ∧ FRc_23 I I' := fun al => ⟨al.1 23 17 (by omega) (by omega), al.1 37 5 (by omega) (by omega), fun c q t1 t2 t3 => al.1 c q (by omega) (by omega)⟩
  by_cases hfull : nn = 4
  · have cf := fl_a (L := L) (xs := xs) (d := d + 5) (I := Ic) (J := Jc) (k := 4) hG h0
    refine ⟨_, _, _, _, 0, nwA0f_23 hG hR (by omega) cf (nwd16_23 (d := d + 4) (I := uI (uI Ic 43 2 4) 43 3 (Ic 1 4)) hG hR (m := np) (k := nn) q1 p1 q5 p3 (by show ((4 : Int32)).toInt ≠ 0; decide) _ _ _ _), mw_0 hGr (by omega) (fa_run hGr), ⟨alc (alX_F (J := Jc) _ _), (by intro c q t1 t2 t3 t4 t5; repeat (first | rw [uI_n _ _ (by omega)] | rw [ar7.1 c q (by omega)] | rw [ar6.1 c q (by omega)] | rw [ar5.1 c q (by omega)] | rw [ar4.1 c q (by omega)] | rw [ar3.1 c q (by omega)] | rw [ar2.1 c q (by omega)] | rw [ar1.1 c q (by omega)] | rw [w0.1 c q (by omega)] | rw [u0.1 c q (by omega)] | rw [v2.1 c q (by omega)] | rw [z2.1 c q (by omega)]))⟩, Or.inl ⟨rfl, by show ((4 : Int32)).toInt ≠ 0; decide, rfl, ?_⟩⟩
    show (Ic 1 4).toInt = (Ir 86 5).toInt
    omega
  have hb : (Ir 88 5).toInt ≠ 4 := by omega
  -- from whom
  obtain ⟨st1, k1, e1, Ic1, Jc1, a, Ir1, Jr1, c1, d1, tk1, b1, al1, ar1, rt1, hh1⟩ := perl_23 (L := L) (xs := xs) (d := d + 2) (d' := d') hG hR hGr h4 hn9 h0 x1 x2 x7 x6 y1 y2 y8 hP0 (-1)
  have hm1 : (Ic1 23 14).toInt = np := by rw [al1.1 23 14 (by omega) (by omega)]; exact q1
  have hk1 : (Ic1 23 16).toInt = nn := by rw [al1.1 23 16 (by omega) (by omega)]; exact q5
  have cA := fun {v : Option Value} {h' : xH} (hk : xEv L xs (d + 6) 37 22 [.ref 43, .int a, xmk, xmk, xmk] [] (124, Ic1, Jc1, R) v h') => nwA0_23 hG hR (by omega) (nwA16_23 hG c1 hk)
  rcases hh1 with ⟨f1, f2, f3⟩ | ⟨f1, fk1, dz1, f2, f3⟩
  · exact ⟨_, _, _, _, 0, cA (nwd22_23 (d := d + 4) hG hR hm1 p1 hk1 p3 (by omega) _ _ _ _), mw_1 hGr hb d1 f1 (fa_run hGr), ⟨alc al1, (by intro c q t1 t2 t3 t4 t5; repeat (first | rw [uI_n _ _ (by omega)] | rw [ar7.1 c q (by omega)] | rw [ar6.1 c q (by omega)] | rw [ar5.1 c q (by omega)] | rw [ar4.1 c q (by omega)] | rw [ar3.1 c q (by omega)] | rw [ar2.1 c q (by omega)] | rw [ar1.1 c q (by omega)] | rw [w0.1 c q (by omega)] | rw [u0.1 c q (by omega)] | rw [v2.1 c q (by omega)] | rw [z2.1 c q (by omega)]))⟩, Or.inl ⟨rfl, by omega, by show _ = ((1 : Int32)).toInt; rw [f2]; rfl, f3⟩⟩
  rcases f3 with ⟨g1, g2, g3⟩ | ⟨g1, g2, g3, -⟩ | ⟨g1, g2, g3, g5, g6, ct1⟩
  · exact ⟨_, _, _, _, 0, cA (nwd22_23 (d := d + 4) hG hR hm1 p1 hk1 p3 (by omega) _ _ _ _), mw_2 hGr hb d1 f1 dz1 g1 (fa_run hGr), ⟨alc al1, (by intro c q t1 t2 t3 t4 t5; repeat (first | rw [uI_n _ _ (by omega)] | rw [ar7.1 c q (by omega)] | rw [ar6.1 c q (by omega)] | rw [ar5.1 c q (by omega)] | rw [ar4.1 c q (by omega)] | rw [ar3.1 c q (by omega)] | rw [ar2.1 c q (by omega)] | rw [ar1.1 c q (by omega)] | rw [w0.1 c q (by omega)] | rw [u0.1 c q (by omega)] | rw [v2.1 c q (by omega)] | rw [z2.1 c q (by omega)]))⟩, Or.inl ⟨rfl, by omega, by show _ = ((5 : Int32)).toInt; rw [g2]; rfl, by show _ = (Ir1 86 5).toInt; omega⟩⟩
  · have : (-1 : Int32).toInt = -1 := by decide
    omega
  -- has that one room
  obtain ⟨A0, hA0⟩ := Int.eq_ofNat_of_zero_le g1
  have hA0n : A0 < np := by omega
  have hP1 := PR_m_23 (PR_x_23 hP0 al1) (alM_S ar1)
  obtain ⟨qc, cq, eqc⟩ := nf_run_23 (L := L) (xs := xs) (d := d + 4) (J := Jc1) (I := Ic1) hG hk1 p3 a
  have cr := at_run (L := L) (xs := xs) (d := d + 5) (h := (124, Ic1, Jc1, R)) (c := 25) (n := 7) (fun _ => rfl) (by decide) a
  have eca := clamp_s (i := a) g1
  have eka : a.toNatClampNeg = A0 := by omega
  rw [if_pos ⟨g1, by omega⟩, eka] at cr
  have cr' : xEv L xs (d + 5) 39 0 [.ref 25, .int a] [] (124, Ic1, Jc1, R) (some (.int (Ic1 25 A0))) (124, Ic1, Jc1, R) := cr
  obtain ⟨qr, dq, eqr⟩ := no_run (L := L) (xs := xs) (d := d' + 3) (J := Jr1) (I := Ir1) hGr (m := nn) (by rw [ar1.1 88 5 (by omega)]; exact q6) p3 a
  have hcnt : cIn (fun i => (Ic1 31 i).toInt) a.toInt nn = cIn (fun i => (Ir1 96 (4 + i)).toInt) a.toInt nn := cIn_e nn (fun i hi => by rw [(hP1.2.2.2.2.2.2.1 i hi).1])
  have e7 : (7 + a).toInt = ((7 + A0 : Nat) : Int) := by
    rw [i_add (by rw [show (7 : Int32).toInt = 7 from by decide]; omega) (by rw [show (7 : Int32).toInt = 7 from by decide]; omega), show (7 : Int32).toInt = 7 from by decide]
    omega
  have ec7 := clamp_s (i := 7 + a) (by omega)
  have ek7 : (7 + a).toNatClampNeg = 7 + A0 := by omega
  have hho : Ic1 25 A0 = Ir1 90 (7 + A0) := (hP1.2.2.2.2.1 A0 hA0n).1
  have hcap := hP1.2.2.2.2.2.2.2.2.1 A0 hA0n
  have ha1 : a.toInt ≠ -1 := by omega
  have hqq : qc.toInt = qr.toInt := by rw [eqc, eqr, hcnt]
  have eqc' : qc.toInt = cIn (fun i => (Ic1 31 i).toInt) (A0 : Int) nn := by rw [eqc, hA0]
  by_cases hroom : qc.toInt < (Ic1 25 A0).toInt
  rotate_left
  · have cf := fl_a (L := L) (xs := xs) (d := d + 5) (I := Ic1) (J := Jc1) (k := 4) hG g5
    refine ⟨_, _, _, _, 0, cA (nwA22f_23 hG hR cq cr' (by omega) cf (nwd49_23 (d := d + 4) (I := uI (uI Ic1 43 2 4) 43 3 (Ic1 1 4)) hG hR (m := np) hm1 p1 (by show ((4 : Int32)).toInt ≠ 0; decide) _ _ _ _)), mw_3 hGr hb d1 f1 dz1 ha1 dq (by omega) (by omega) (by rw [ek7, ← hho]; omega) (fa_run hGr), ⟨alc (alX_t al1 (alX_F (J := Jc1) _ _)), (by intro c q t1 t2 t3 t4 t5; repeat (first | rw [uI_n _ _ (by omega)] | rw [ar7.1 c q (by omega)] | rw [ar6.1 c q (by omega)] | rw [ar5.1 c q (by omega)] | rw [ar4.1 c q (by omega)] | rw [ar3.1 c q (by omega)] | rw [ar2.1 c q (by omega)] | rw [ar1.1 c q (by omega)] | rw [w0.1 c q (by omega)] | rw [u0.1 c q (by omega)] | rw [v2.1 c q (by omega)] | rw [z2.1 c q (by omega)]))⟩, Or.inl ⟨rfl, by show ((4 : Int32)).toInt ≠ 0; decide, rfl, ?_⟩⟩
    show (Ic1 1 4).toInt = (Ir1 86 5).toInt
    rw [ct1.2.2.2.1]
    omega
  have hnr : qr.toInt ≠ (Ir1 90 (7 + a).toNatClampNeg).toInt := by rw [ek7, ← hho]; omega
  -- for whom
  obtain ⟨st2, k2, e2, Ic2, Jc2, c, Ir2, Jr2, c2, d2, tk2, b2, al2, ar2, rt2, hh2⟩ := perl_23 (L := L) (xs := xs) (d := d + 2) (d' := d') hG hR hGr h4 hn9 g5 ct1.1 ct1.2.1 b1 ct1.2.2.2.2.2.1 rt1.1 rt1.2.1 rt1.2.2.2.2.2.2.2.1 hP1 a
  have cB := fun {v : Option Value} {h' : xH} (hk : xEv L xs (d + 6) 37 55 [.ref 43, .int a, .int c, xmk, xmk] [] (124, Ic2, Jc2, R) v h') => cA (nwA22_23 hG hR cq cr' hroom (nwA49_23 hG c2 hk))
  have al12 := alX_t al1 al2
  rcases hh2 with ⟨f4, f5, f6⟩ | ⟨f4, fk2, dz2, f5, f6⟩
  · exact ⟨_, _, _, _, 0, cB (nwd55_23 (d := d + 4) hG (by omega) _ _ _ _), mw_4 hGr hb d1 f1 dz1 ha1 dq (by omega) (by omega) hnr d2 f4 (fa_run hGr), ⟨alc al12, (by intro c q t1 t2 t3 t4 t5; repeat (first | rw [uI_n _ _ (by omega)] | rw [ar7.1 c q (by omega)] | rw [ar6.1 c q (by omega)] | rw [ar5.1 c q (by omega)] | rw [ar4.1 c q (by omega)] | rw [ar3.1 c q (by omega)] | rw [ar2.1 c q (by omega)] | rw [ar1.1 c q (by omega)] | rw [w0.1 c q (by omega)] | rw [u0.1 c q (by omega)] | rw [v2.1 c q (by omega)] | rw [z2.1 c q (by omega)]))⟩, Or.inl ⟨rfl, by omega, by show _ = ((1 : Int32)).toInt; rw [f5]; rfl, f6⟩⟩
  rcases f6 with ⟨u1, u2, u3⟩ | ⟨u1, u2, u3, u4, u5⟩ | ⟨u1, u2, u3, u4, u5, ct2⟩
  · exact ⟨_, _, _, _, 0, cB (nwd55_23 (d := d + 4) hG (by omega) _ _ _ _), mw_6 hGr hb d1 f1 dz1 ha1 dq (by omega) (by omega) hnr d2 f4 dz2 (by omega) u1 (fa_run hGr), ⟨alc al12, (by intro c q t1 t2 t3 t4 t5; repeat (first | rw [uI_n _ _ (by omega)] | rw [ar7.1 c q (by omega)] | rw [ar6.1 c q (by omega)] | rw [ar5.1 c q (by omega)] | rw [ar4.1 c q (by omega)] | rw [ar3.1 c q (by omega)] | rw [ar2.1 c q (by omega)] | rw [ar1.1 c q (by omega)] | rw [w0.1 c q (by omega)] | rw [u0.1 c q (by omega)] | rw [v2.1 c q (by omega)] | rw [z2.1 c q (by omega)]))⟩, Or.inl ⟨rfl, by omega, by show _ = ((5 : Int32)).toInt; rw [u2]; rfl, by show _ = (Ir2 86 5).toInt; omega⟩⟩
  · exact ⟨_, _, _, _, 0, cB (nwd55_23 (d := d + 4) hG (by omega) _ _ _ _), mw_5 hGr hb d1 f1 dz1 ha1 dq (by omega) (by omega) hnr d2 f4 dz2 u3 (fa_run hGr), ⟨alc al12, (by intro c q t1 t2 t3 t4 t5; repeat (first | rw [uI_n _ _ (by omega)] | rw [ar7.1 c q (by omega)] | rw [ar6.1 c q (by omega)] | rw [ar5.1 c q (by omega)] | rw [ar4.1 c q (by omega)] | rw [ar3.1 c q (by omega)] | rw [ar2.1 c q (by omega)] | rw [ar1.1 c q (by omega)] | rw [w0.1 c q (by omega)] | rw [u0.1 c q (by omega)] | rw [v2.1 c q (by omega)] | rw [z2.1 c q (by omega)]))⟩, Or.inl ⟨rfl, by omega, by show _ = ((3 : Int32)).toInt; rw [u4]; rfl, by show _ = (Ir2 86 5).toInt; omega⟩⟩
  -- by which hour
  have hc1 : c.toInt ≠ -1 := by omega
  obtain ⟨st3, k3, e3, Ir3, Jr3, d3, tk3, rt3, ar3⟩ := sk_run (L := L) (xs := xs) (d := d' + 1) (R := Rr) (b := b) (n := n) (p := e2) (I := Ir2) (J := Jr2) hGr (by omega) hn9 rt2.1 rt2.2.1 b2 rt2.2.2.2.2.2.2.2.1
  obtain ⟨Ic3, Jc3, y, c3, al3, hh3⟩ := numl (L := L) (xs := xs) (d := d + 2) (d' := d') hG hGr h4 hn9 u4 ct2.1 ct2.2.1 b2 ct2.2.2.2.2.2.1 tk3 rt3 0 95
  have cC := fun {v : Option Value} {h' : xH} (hk : xEv L xs (d + 6) 37 63 [.ref 43, .int a, .int c, .int y, xmk] [] (124, Ic3, Jc3, R) v h') => cB (nwA55_23 hG c3 hk)
  have al123 := alX_t al12 al3
  rcases hh3 with ⟨v1, Ir4, d4, v2, v3, v4⟩ | ⟨v1, v2, ct3, vk3, v3, v4, st4, k4, e4, Ir4, Jr4, d4, tk4, rt4, v5, v6, v7, ar4⟩
  · exact ⟨_, _, _, _, 0, cC (nwd63_23 (d := d + 4) hG v1 _ _ _ _), mw_7 hGr hb d1 f1 dz1 ha1 dq (by omega) (by omega) hnr d2 f4 dz2 (by omega) hc1 d3 d4, ⟨alc al123, (by intro c q t1 t2 t3 t4 t5; repeat (first | rw [uI_n _ _ (by omega)] | rw [ar7.1 c q (by omega)] | rw [ar6.1 c q (by omega)] | rw [ar5.1 c q (by omega)] | rw [ar4.1 c q (by omega)] | rw [ar3.1 c q (by omega)] | rw [ar2.1 c q (by omega)] | rw [ar1.1 c q (by omega)] | rw [w0.1 c q (by omega)] | rw [u0.1 c q (by omega)] | rw [v2.1 c q (by omega)] | rw [z2.1 c q (by omega)]))⟩, Or.inl ⟨rfl, v1, v3, v4⟩⟩
  -- what it is worth
  have e4n : (4 + Ir 88 5).toInt = ((4 + nn : Nat) : Int) := by
    rw [i_add (by rw [show (4 : Int32).toInt = 4 from by decide]; omega) (by rw [show (4 : Int32).toInt = 4 from by decide]; omega), show (4 : Int32).toInt = 4 from by decide]
    omega
  have ec4 := clamp_s (i := 4 + Ir 88 5) (by omega)
  have ek4 : (4 + Ir 88 5).toNatClampNeg = 4 + nn := by omega
  have m0 : 0 ≤ (4 + Ir 88 5).toInt := by omega
  have m1 : (4 + Ir 88 5).toInt < 8 := by omega
  have e3n : e3 ≤ n := rt3.2.2.2.2.2.2.2.2.1
  have rts : rTok b n (uI Ir4 98 (4 + Ir 88 5).toNatClampNeg (Ir4 86 11)) Jr4 st4 k4 e4 := rTok_c rt4 (fun _ => rfl) (fun _ => rfl) rfl
  obtain ⟨Ic4, Jc4, x, c4, al4, hh4⟩ := numl (L := L) (xs := xs) (d := d + 2) (d' := d') hG hGr h4 hn9 v1 ct3.1 ct3.2.1 e3n ct3.2.2.2.2.2.1 tk4 rts 0 99
  have cD := fun {v : Option Value} {h' : xH} (hk : xEv L xs (d + 6) 37 72 [.ref 43, .int a, .int c, .int y, .int x] [] (124, Ic4, Jc4, R) v h') => cC (nwA63_23 hG c4 hk)
  have al4' := alX_t al123 al4
  rcases hh4 with ⟨z1, Ir5, d5, z2, z3, z4⟩ | ⟨z1, z2, ct4, zk4, z3, z4, st5, k5, e5, Ir5, Jr5, d5, tk5, rt5, z5, z6, z7, ar5⟩
  · exact ⟨_, _, _, _, 0, cD (nwD72_23 hG z1), mw_8 hGr hb d1 f1 dz1 ha1 dq (by omega) (by omega) hnr d2 f4 dz2 (by omega) hc1 d3 d4 m0 m1 d5, ⟨alc al4', (by intro c q t1 t2 t3 t4 t5; repeat (first | rw [uI_n _ _ (by omega)] | rw [ar7.1 c q (by omega)] | rw [ar6.1 c q (by omega)] | rw [ar5.1 c q (by omega)] | rw [ar4.1 c q (by omega)] | rw [ar3.1 c q (by omega)] | rw [ar2.1 c q (by omega)] | rw [ar1.1 c q (by omega)] | rw [w0.1 c q (by omega)] | rw [u0.1 c q (by omega)] | rw [v2.1 c q (by omega)] | rw [z2.1 c q (by omega)]))⟩, Or.inl ⟨rfl, z1, z3, z4⟩⟩
  have hrow : ∀ q, q ≠ 86 → Ir4 q = Ir q := fun q hq => funext fun i => by rw [ar4.1 q i (by omega), ar3.1 q i (by omega), ar2.1 q i (by omega), ar1.1 q i (by omega)]
  have hrow5 : ∀ q, q ≠ 86 → Ir5 q = uI Ir4 98 (4 + nn) (Ir4 86 11) q := fun q hq => funext fun i => by rw [ar5.1 q i (by omega), ek4]
  have hJ5 : Jr5 89 = Jr 89 := funext fun i => by rw [ar5.2 89 i (by omega), ar4.2 89 i (by omega), ar3.2 89 i (by omega), ar2.2 89 i (by omega), ar1.2 89 i (by omega)]
  have w8 : Ir5 86 8 = Ir 86 8 := by rw [z6]; show Ir4 86 8 = _; rw [v6, ar3.1 86 8 (by omega), ar2.1 86 8 (by omega), ar1.1 86 8 (by omega)]
  have w9 : Ir5 86 9 = Ir 86 9 := by rw [z7]; show Ir4 86 9 = _; rw [v7, ar3.1 86 9 (by omega), ar2.1 86 9 (by omega), ar1.1 86 9 (by omega)]
  have h16 : (Ic4 23 16).toInt = nn := by rw [al4'.1 23 16 (by omega) (by omega)]; exact q5
  have ecf := clamp_s (i := Ic4 23 16) (by omega)
  have ekf : (Ic4 23 16).toNatClampNeg = nn := by omega
  have ean := an_run_23 (L := L) (xs := xs) (d := d + 4) (I := Ic4) (J := Jc4) hG (by omega) (by omega) a c y x
  -- the class goes on to the token behind
  have e4le : e4 ≤ n := rt4.2.2.2.2.2.2.2.2.1
  obtain ⟨st6, k6, e6, Ic6, Jc6, c6, tk6, w1, w2, w3, w4, w5, w6, w7, al6⟩ := ad_run (L := L) (xs := xs) (d := d + 4) (R := R) hG hn9 (I := uI (uI (uI (uI (uI (uI Ic4 31 (Ic4 23 16).toNatClampNeg a) 32 (Ic4 23 16).toNatClampNeg c) 33 (Ic4 23 16).toNatClampNeg y) 34 (Ic4 23 16).toNatClampNeg x) 35 (Ic4 23 16).toNatClampNeg 0) 23 16 (Ic4 23 16 + 1)) (J := Jc4) ct4.1 ct4.2.1 e4le
  have hbA : bX (uI (uI (uI (uI (uI (uI Ic4 31 (Ic4 23 16).toNatClampNeg a) 32 (Ic4 23 16).toNatClampNeg c) 33 (Ic4 23 16).toNatClampNeg y) 34 (Ic4 23 16).toNatClampNeg x) 35 (Ic4 23 16).toNatClampNeg 0) 23 16 (Ic4 23 16 + 1)) n = b := by rw [← ct4.2.2.2.2.2.1]; rfl
  rw [hbA] at tk6 w7
  obtain ⟨t1, t2, t3⟩ := isTok_u tk5 tk6
  subst t1
  subst t2
  subst t3
  have p5 : e0 ≤ e5 := by
    have j1 := tok_prog tk1 (by omega)
    have j2 := tok_prog tk2 (by omega)
    have j3 := tok_prog tk3 (by omega)
    have j4 := tok_prog tk4 (by omega)
    have j5 := tk5.1.1
    omega
  refine ⟨Ic6, Jc6, _, _, 1, cD (nwA72_23 hG z1 hR ean c6), mw_9 hGr hb d1 f1 dz1 ha1 dq (by omega) (by omega) hnr d2 f4 dz2 (by omega) hc1 d3 d4 m0 m1 d5 m0 m1 m0 m1 m0 m1 m0 m1, ?_⟩
  rw [ek4]
  rw [ekf] at al6
  have e1 := i_add1 (x := Ic4 23 16) (by omega)
  have eI : ∀ q, (23 ≤ q ∧ q ≤ 37) → Ic4 q = Ic q := fun q hq => funext fun i => al4'.1 q i (by omega) (by omega)
  have f6 : ∀ q, (23 ≤ q ∧ q ≤ 37) → Ic6 q = (uI (uI (uI (uI (uI (uI Ic4 31 nn a) 32 nn c) 33 nn y) 34 nn x) 35 nn 0) 23 16 (Ic4 23 16 + 1)) q := fun q hq => funext fun i => al6.1 q i (by omega)
  refine ⟨⟨⟨?_, ?_, fun c q t1 t2 t3 => by rw [al6.1 c q (by omega), uI_n _ _ (by omega), uI_n _ _ (by omega), uI_n _ _ (by omega), uI_n _ _ (by omega), uI_n _ _ (by omega), uI_n _ _ (by omega), al4'.1 c q (by omega) (by omega)]⟩, (by intro c q t1 t2 t3 t4 t5; repeat (first | rw [uI_n _ _ (by omega)] | rw [ar7.1 c q (by omega)] | rw [ar6.1 c q (by omega)] | rw [ar5.1 c q (by omega)] | rw [ar4.1 c q (by omega)] | rw [ar3.1 c q (by omega)] | rw [ar2.1 c q (by omega)] | rw [ar1.1 c q (by omega)] | rw [w0.1 c q (by omega)] | rw [u0.1 c q (by omega)] | rw [v2.1 c q (by omega)] | rw [z2.1 c q (by omega)]))⟩, Or.inr ⟨rfl, ?_, ?_, w8, w9, st5, k5, e5, np, nm, nn + 1, p5, ⟨?_, w4, w5, w6, w7, by rw [alT_b al6]; exact (by rw [← ct4.2.2.2.2.2.1]; rfl), w2, w3⟩, rTok_c rt5 (fun _ => rfl) (fun _ => rfl) rfl, ?_⟩⟩
  · rw [f6 23 (by decide)]; show Ic4 23 17 = _; rw [eI 23 (by decide)]
  · rw [f6 37 (by decide)]; show Ic4 37 5 = _; rw [eI 37 (by decide)]
  · rw [al6.1 43 2 (by omega)]; exact z1
  · rw [al6.1 43 3 (by omega)]; show Ic4 43 3 = _; rw [z2, v2, u5, g6]
  · rw [al6.1 1 1 (by omega)]; exact ct4.1
  refine PR_n_23 hP0 (by omega) a c y x hA0 hA0n ?_ (by omega) ?_ ?_ ?_ ?_ ?_ ?_ ?_ ?_ ?_ ?_ ?_ ?_ ?_ ?_ ?_ ?_ ?_ ?_ ?_ hJ5
  · have g1' : (cIn (fun i => (Ic1 31 i).toInt) (A0 : Int) nn : Int) < (Ic1 25 A0).toInt := by omega
    have k8 : Ic1 31 = Ic 31 := funext fun i => al1.1 31 i (by omega) (by omega)
    have k2' : Ic1 25 = Ic 25 := funext fun i => al1.1 25 i (by omega) (by omega)
    rw [k8, k2'] at g1'
    exact g1'
  · rw [f6 23 (by decide)]; show (Ic4 23 16 + 1).toInt = _; omega
  · rw [f6 23 (by decide)]; show Ic4 23 14 = _; rw [eI 23 (by decide)]
  · rw [f6 23 (by decide)]; show Ic4 23 15 = _; rw [eI 23 (by decide)]
  · intro i
    rw [f6 31 (by decide)]
    show uI Ic4 31 nn a 31 i = _
    by_cases g : i = nn
    · rw [if_pos g, g, uI_s]
    · rw [if_neg g, uI_n _ _ (by omega), eI 31 (by decide)]
  · intro i
    rw [f6 32 (by decide)]
    show uI (uI Ic4 31 nn a) 32 nn c 32 i = _
    by_cases g : i = nn
    · rw [if_pos g, g, uI_s]
    · rw [if_neg g, uI_n _ _ (by omega), uI_n _ _ (by omega), eI 32 (by decide)]
  · intro i
    rw [f6 33 (by decide)]
    show uI (uI (uI Ic4 31 nn a) 32 nn c) 33 nn y 33 i = _
    by_cases g : i = nn
    · rw [if_pos g, g, uI_s]
    · rw [if_neg g, uI_n _ _ (by omega), uI_n _ _ (by omega), uI_n _ _ (by omega), eI 33 (by decide)]
  · intro i
    rw [f6 34 (by decide)]
    show uI (uI (uI (uI Ic4 31 nn a) 32 nn c) 33 nn y) 34 nn x 34 i = _
    by_cases g : i = nn
    · rw [if_pos g, g, uI_s]
    · rw [if_neg g, uI_n _ _ (by omega), uI_n _ _ (by omega), uI_n _ _ (by omega), uI_n _ _ (by omega), eI 34 (by decide)]
  · intro i
    rw [f6 35 (by decide)]
    show uI (uI (uI (uI (uI Ic4 31 nn a) 32 nn c) 33 nn y) 34 nn x) 35 nn 0 35 i = _
    by_cases g : i = nn
    · rw [if_pos g, g, uI_s]
    · rw [if_neg g, uI_n _ _ (by omega), uI_n _ _ (by omega), uI_n _ _ (by omega), uI_n _ _ (by omega), uI_n _ _ (by omega), eI 35 (by decide)]
  · intro q h1 h2
    rw [f6 q (by omega), ← eI q (by omega)]
    funext i
    rw [uI_n _ _ (by omega), uI_n _ _ (by omega), uI_n _ _ (by omega), uI_n _ _ (by omega), uI_n _ _ (by omega), uI_n _ _ (by omega)]
  · funext i
    rw [al6.2 24 i (by omega), al4'.2 24 i (by omega)]
  · show (Ir5 88 5 + 1).toInt = _
    rw [hrow5 88 (by decide)]
    show (Ir4 88 5 + 1).toInt = _
    rw [hrow 88 (by decide)]
    have := i_add1 (x := Ir 88 5) (by omega)
    omega
  · show Ir5 88 3 = _
    rw [hrow5 88 (by decide)]
    show Ir4 88 3 = _
    rw [hrow 88 (by decide)]
  · show Ir5 88 4 = _
    rw [hrow5 88 (by decide)]
    show Ir4 88 4 = _
    rw [hrow 88 (by decide)]
  · intro i hi
    show uI (uI Ir5 99 (4 + nn) (Ir5 86 11)) 96 (4 + nn) a 96 (4 + i) = _
    by_cases g : i = nn
    · rw [if_pos g, g, uI_s]
    · rw [if_neg g, uI_n _ _ (by omega), uI_n _ _ (by omega), hrow5 96 (by decide), uI_n _ _ (by omega), hrow 96 (by decide)]
  · intro i hi
    show uI (uI (uI Ir5 99 (4 + nn) (Ir5 86 11)) 96 (4 + nn) a) 97 (4 + nn) c 97 (4 + i) = _
    by_cases g : i = nn
    · rw [if_pos g, g, uI_s]
    · rw [if_neg g, uI_n _ _ (by omega), uI_n _ _ (by omega), uI_n _ _ (by omega), hrow5 97 (by decide), uI_n _ _ (by omega), hrow 97 (by decide)]
  · intro i hi
    show Ir5 98 (4 + i) = _
    rw [hrow5 98 (by decide)]
    by_cases g : i = nn
    · rw [if_pos g, g, uI_s, v5]
    · rw [if_neg g, uI_n _ _ (by omega), hrow 98 (by decide)]
  · intro i hi
    show uI Ir5 99 (4 + nn) (Ir5 86 11) 99 (4 + i) = _
    by_cases g : i = nn
    · rw [if_pos g, g, uI_s, z5]
    · rw [if_neg g, uI_n _ _ (by omega), hrow5 99 (by decide), uI_n _ _ (by omega), hrow 99 (by decide)]
  · intro i hi
    show uI (uI (uI (uI Ir5 99 (4 + nn) (Ir5 86 11)) 96 (4 + nn) a) 97 (4 + nn) c) 100 (4 + nn) 0 100 (4 + i) = _
    by_cases g : i = nn
    · rw [if_pos g, g, uI_s]
    · rw [if_neg g, uI_n _ _ (by omega), uI_n _ _ (by omega), uI_n _ _ (by omega), uI_n _ _ (by omega), hrow5 100 (by decide), uI_n _ _ (by omega), hrow 100 (by decide)]
  · intro q h1 h2
    have hz : (uI (uI (uI (uI (uI Ir5 99 (4 + nn) (Ir5 86 11)) 96 (4 + nn) a) 97 (4 + nn) c) 100 (4 + nn) 0) 88 5 (Ir5 88 5 + 1)) q = Ir5 q := by
      funext i
      rw [uI_n _ _ (by omega), uI_n _ _ (by omega), uI_n _ _ (by omega), uI_n _ _ (by omega), uI_n _ _ (by omega)]
    rw [hz, hrow5 q (by omega), ← hrow q (by omega)]
    funext i
    rw [uI_n _ _ (by omega)]
end NE23
