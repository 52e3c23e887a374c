section PF3
variable {L : Nat} {xs : Nat → Int32} {d d' : Nat} {R Rr : Nat → Nat → Nat}
theorem person_3 (hG : aGd R) (hR : R 43 1 = 4) (hGr : aGd Rr) (h4 : 4 ≤ d' + 1) {b : Nat → Int32} {n st0 k0 e0 np nm nn : Nat} (hn9 : n ≤ 900) {Ic Ir : Nat → Nat → Int32} {Jc Jr : Nat → Nat → Int64} (h0 : (Ic 43 2).toInt = 0) (hc : cTok b n Ic Jc st0 k0 e0) (hr : rTok b n Ir Jr st0 k0 e0) (hP : PR_3 b np nm nn Ic Jc Ir Jr) : ∃ (Ic' : Nat → Nat → Int32) (Jc' : Nat → Nat → Int64) (Ir' : Nat → Nat → Int32) (Jr' : Nat → Nat → Int64) (w : Int32), xEv L xs (d + 6) 26 0 [.ref 43, xmk, xmk, xmk, xmk] [] (124, Ic, Jc, R) none (124, Ic', Jc', R) ∧ xEv L xs (d' + 4) 156 0 [.ref 86, xmk] [] (124, Ir, Jr, Rr) (some (.int w)) (124, Ir', Jr', Rr) ∧ CL_3 b n e0 Ic Ir Ic' Jc' Ir' Jr' w := by
  have hP0 := hP
  obtain ⟨⟨p1, p2, p3⟩, ⟨q1, q2⟩, ⟨q3, q4⟩, ⟨q5, q6⟩, q7, q8, q9, q10, q11, q12⟩ := hP
  obtain ⟨x1, x2, x3, x4, x5, x6, x7, x8⟩ := hc
  have hr0 := hr
  obtain ⟨y1, y2, y3, y4, y5, y6, y7, y8, y9, y10⟩ := hr
  have alc : ∀ {I I' : Nat → Nat → Int32} {J J' : Nat → Nat → Int64}, alX I I' J J' → I' 3 17 = I 3 17 ∧ I' 17 5 = I 17 5 ∧ FRc_3 I I' := fun al => ⟨al.1 3 17 (by omega) (by omega), al.1 17 5 (by omega) (by omega), fun c q t1 t2 t3 => al.1 c q (by omega) (by omega)⟩
  by_cases hfull : np = 7
  · -- no room
    have cf := fl_a (L := L) (xs := xs) (d := d + 5) (I := Ic) (J := Jc) (k := 4) hG h0
    refine ⟨_, _, _, _, 0, rpA0f_3 hG hR (by omega) cf (rpd17_3 (d := d + 4) (I := uI (uI Ic 43 2 4) 43 3 (Ic 1 4)) hG hR (m := np) q1 p1 (by show ((4 : Int32)).toInt ≠ 0; decide) _ _ _ _), mp_0 hGr (by omega) (fa_run hGr), ⟨alc (alX_F (J := Jc) _ _), (by intro c q t1 t2 t3 t4 t5; repeat (first | rw [uI_n _ _ (by omega)] | rw [ar7.1 c q (by omega)] | rw [ar6.1 c q (by omega)] | rw [ar5.1 c q (by omega)] | rw [ar4.1 c q (by omega)] | rw [ar3.1 c q (by omega)] | rw [ar2.1 c q (by omega)] | rw [ar1.1 c q (by omega)] | rw [w0.1 c q (by omega)] | rw [u0.1 c q (by omega)] | rw [v2.1 c q (by omega)] | rw [z2.1 c q (by omega)]))⟩, Or.inl ⟨rfl, by show ((4 : Int32)).toInt ≠ 0; decide, rfl, ?_⟩⟩
    show (Ic 1 4).toInt = (Ir 86 5).toInt
    omega
  -- the name
  obtain ⟨st1, k1, e1, Ic1, Jc1, val, c1, tk1, a1, a2, al1, hh1⟩ := tk_run (L := L) (xs := xs) (d := d + 3) (R := R) (J := Jc) hG hn9 h0 x1 x2 x7 x6 (K := 1) (K' := 1) (by decide)
  obtain ⟨st1', k1', e1', Ir1, Jr1, d1, tk1', rt1, ar1⟩ := sk_run (L := L) (xs := xs) (d := d' + 1) (R := Rr) (b := b) (n := n) (p := e0) (I := Ir) (J := Jr) hGr (by omega) hn9 y1 y2 y9 y8
  obtain ⟨g1, g2, g3⟩ := isTok_u tk1' tk1
  subst g1
  subst g2
  subst g3
  have r8 : Ir1 86 8 = Ir 86 8 := ar1.1 86 8 (by omega)
  have r9 : Ir1 86 9 = Ir 86 9 := ar1.1 86 9 (by omega)
  have rnu : Ir1 88 3 = Ir 88 3 := ar1.1 88 3 (by omega)
  have hm1 : (Ic1 3 14).toInt = np := by rw [al1.1 3 14 (by omega) (by omega)]; exact q1
  have hb7 : (Ir 88 3).toInt ≠ 7 := by omega
  have cA := fun {v : Option Value} {h' : xH} (hk : xEv L xs (d + 6) 26 23 [.ref 43, .long val, xmk, xmk, xmk] [] (124, Ic1, Jc1, R) v h') => rpA0_3 hG hR (by omega) (rpA17_3 hG c1 hk)
  rcases hh1 with ⟨hk1, f1, f2, f3, f4⟩ | ⟨hk1, f1, f2⟩
  rotate_left
  · -- no word
    refine ⟨_, _, _, _, 0, cA (rpd23_3 (d := d + 4) hG hR hm1 p1 (by omega) _ _ _), mp_1 hGr hb7 d1 (by rw [rt1.2.2.1]; intro z; exact hk1 (ck_1.mpr (rs_1.mp (by omega)))) (fa_run hGr), ⟨alc al1, (by intro c q t1 t2 t3 t4 t5; repeat (first | rw [uI_n _ _ (by omega)] | rw [ar7.1 c q (by omega)] | rw [ar6.1 c q (by omega)] | rw [ar5.1 c q (by omega)] | rw [ar4.1 c q (by omega)] | rw [ar3.1 c q (by omega)] | rw [ar2.1 c q (by omega)] | rw [ar1.1 c q (by omega)] | rw [w0.1 c q (by omega)] | rw [u0.1 c q (by omega)] | rw [v2.1 c q (by omega)] | rw [z2.1 c q (by omega)]))⟩, Or.inl ⟨rfl, by omega, ?_, ?_⟩⟩
    · show (Ic1 43 2).toInt = ((1 : Int32)).toInt
      rw [f1]; rfl
    · show (Ic1 43 3).toInt = (Ir1 86 5).toInt
      rw [f2, rt1.2.2.2.1]
  obtain ⟨ek1, hm8⟩ := ck_1.mp hk1
  subst ek1
  obtain ⟨hl1, hlt1⟩ := tok_w tk1
  have es1 : (Ir1 86 3).toInt = 1 := by rw [rt1.2.2.1, rs_1.mpr ⟨rfl, hm8⟩]; rfl
  have ev1 : val = vF b st1' (e1' - st1') := by rw [f4]; exact f3.2.2.2.2.1 (Or.inl rfl)
  have ew1 : Jr1 86 10 = wF b st1' (e1' - st1') := rt1.2.2.2.2.1 rfl
  obtain ⟨z, cz, hz⟩ := pn_run_3 (L := L) (xs := xs) (d := d + 5) (J := Jc1) (I := Ic1) hG hm1 p1 val
  obtain ⟨z', dz, hz'⟩ := nd_run (L := L) (xs := xs) (d := d' + 3) (I := Ir1) (J := Jr1) hGr (m := np) (by rw [rnu]; exact q2) p1
  have ezz : z.toInt = z'.toInt := by
    refine isIx_u (eq := fun i => Jc1 4 i = val) (eq' := fun i => Jr1 89 i = Jr1 86 10) (m := np) (by
      rcases hz with ⟨u1, u2⟩ | ⟨i, u1, u2, u3, u4⟩
      · exact Or.inl ⟨u1, u2⟩
      · exact Or.inr ⟨i, u1, u2, u3, u4⟩) hz' (fun i hi => ?_)
    obtain ⟨-, -, -, st, m, w1, w2, w3, w4, w5⟩ := q7 i hi
    rw [al1.2 4 i (by omega), ar1.2 89 i (by omega), w4, w5, ev1, ew1]
    exact word_eq w2 hm8 w3 hlt1
  by_cases hzn : z.toInt = -1
  rotate_left
  · -- twice
    have cf := fl_a (L := L) (xs := xs) (d := d + 5) (I := Ic1) (J := Jc1) (k := 3) hG f1
    refine ⟨_, _, _, _, 0, cA (rpA23f_3 hG hR cz hzn cf (rpd40_3 (d := d + 4) hG (by show ((3 : Int32)).toInt ≠ 0; decide) _ _ _)), mp_2 hGr hb7 d1 es1 dz (by omega) (fa_run hGr), ⟨alc (alX_t al1 (alX_F _ _)), (by intro c q t1 t2 t3 t4 t5; repeat (first | rw [uI_n _ _ (by omega)] | rw [ar7.1 c q (by omega)] | rw [ar6.1 c q (by omega)] | rw [ar5.1 c q (by omega)] | rw [ar4.1 c q (by omega)] | rw [ar3.1 c q (by omega)] | rw [ar2.1 c q (by omega)] | rw [ar1.1 c q (by omega)] | rw [w0.1 c q (by omega)] | rw [u0.1 c q (by omega)] | rw [v2.1 c q (by omega)] | rw [z2.1 c q (by omega)]))⟩, Or.inl ⟨rfl, by show ((3 : Int32)).toInt ≠ 0; decide, rfl, ?_⟩⟩
    show (Ic1 1 4).toInt = (Ir1 86 5).toInt
    rw [f3.2.2.2.1, rt1.2.2.2.1]
  -- how many pieces
  have en14 : 0 ≤ (Ir 88 3).toInt ∧ (Ir 88 3).toInt < 7 := by omega
  have ecl := clamp_s (i := Ir 88 3) en14.1
  have ecn : (Ir 88 3).toNatClampNeg = np := by omega
  have al1b : alS Ir1 Ir1 Jr1 Jr1 := alS_r _ _
  obtain ⟨st2, k2, e2, Ic2, Jc2, y, c2, tk2, b1, b2, al2, hh2⟩ := nu_run (L := L) (xs := xs) (d := d + 2) (R := R) (J := Jc1) hG hn9 f1 f3.1 f3.2.1 a2 f3.2.2.2.2.2.1 1 3
  have rtn : rTok b n Ir1 (uL Jr1 89 (Ir 88 3).toNatClampNeg (Jr1 86 10)) st1' 1 e1' := rTok_c rt1 (fun _ => rfl) (fun _ => rfl) (uL_n _ _ (by omega))
  obtain ⟨st2', k2', e2', Ir2, Jr2, d2, tk2', rt2, ar2⟩ := sk_run (L := L) (xs := xs) (d := d' + 1) (R := Rr) (b := b) (n := n) (p := e1') (I := Ir1) (J := uL Jr1 89 (Ir 88 3).toNatClampNeg (Jr1 86 10)) hGr (by omega) hn9 rtn.1 rtn.2.1 a2 rtn.2.2.2.2.2.2.2.1
  obtain ⟨g1, g2, g3⟩ := isTok_u tk2' tk2
  subst g1
  subst g2
  subst g3
  have cB := fun {v : Option Value} {h' : xH} (hk : xEv L xs (d + 6) 26 47 [.ref 43, .long val, xmk, .int y, xmk] [] (124, Ic2, Jc2, R) v h') => cA (rpA23_3 hG hR cz hzn (rpA40_3 hG c2 hk))
  have al12 := alX_t al1 al2
  have dn := mn_run (L := L) (xs := xs) (d := d') (R := Rr) (b := b) (n := n) (I := Ir2) (J := Jr2) hGr h4 hn9 tk2 rt2 1 3
  have hval : cKd k2' (e2' - st2') = 2 → (vF b st2' (e2' - st2')).toInt = (nF b st2' (e2' - st2')).toInt := by
    intro hk
    obtain ⟨u1, u2⟩ := ck_2.mp hk
    subst u1
    obtain ⟨u3, u4⟩ := tok_n tk2
    exact (num_eq u3 u2 u4).1
  have hkr : cKd k2' (e2' - st2') = 2 ↔ rSo k2' (e2' - st2') = 2 := by rw [ck_2, rs_2]
  have deadn : ∀ (kd' : Int), (Ic2 43 2).toInt = kd' → kd' ≠ 0 → (Ic2 43 3).toInt = st2' → (∃ I' : Nat → Nat → Int32, xEv L xs (d' + 3) 159 0 [.ref 86, .int 1, .int 3] [] (124, Ir2, Jr2, Rr) (some (.int 0)) (124, I', Jr2, Rr) ∧ (I' 86 9).toInt = st2' ∧ (I' 86 8).toInt = kd' ∧ alM Ir2 I' Jr2 Jr2) → ∃ (Ic' : Nat → Nat → Int32) (Jc' : Nat → Nat → Int64) (Ir' : Nat → Nat → Int32) (Jr' : Nat → Nat → Int64) (w : Int32), xEv L xs (d + 6) 26 0 [.ref 43, xmk, xmk, xmk, xmk] [] (124, Ic, Jc, R) none (124, Ic', Jc', R) ∧ xEv L xs (d' + 4) 156 0 [.ref 86, xmk] [] (124, Ir, Jr, Rr) (some (.int w)) (124, Ir', Jr', Rr) ∧ CL_3 b n e0 Ic Ir Ic' Jc' Ir' Jr' w := by
    rintro kd' u1 u2 u3 ⟨I', u4, u5, u6, u0⟩
    exact ⟨_, _, _, _, 0, cB (rpd47_3 (d := d + 4) hG (by omega) _ _ _), mp_3 hGr hb7 d1 es1 dz (by omega) en14.1 en14.2 d2 u4, ⟨alc al12, (by intro c q t1 t2 t3 t4 t5; repeat (first | rw [uI_n _ _ (by omega)] | rw [ar7.1 c q (by omega)] | rw [ar6.1 c q (by omega)] | rw [ar5.1 c q (by omega)] | rw [ar4.1 c q (by omega)] | rw [ar3.1 c q (by omega)] | rw [ar2.1 c q (by omega)] | rw [ar1.1 c q (by omega)] | rw [w0.1 c q (by omega)] | rw [u0.1 c q (by omega)] | rw [v2.1 c q (by omega)] | rw [z2.1 c q (by omega)]))⟩, Or.inl ⟨rfl, by omega, by omega, by omega⟩⟩
  rcases hh2 with ⟨h1, h2, h3, h5, h6, h7, h8⟩ | ⟨h1, h2, h3, h5⟩ | ⟨h1, h2, h3⟩
  rotate_left
  · -- out of bounds
    refine deadn 2 h3 (by decide) h5 ?_
    rcases dn with ⟨w1, w2, w3, -⟩ | ⟨I', w1, w0, w2, ⟨w3, w4⟩ | ⟨w3, w4, w5⟩⟩
    · rw [hval h1] at h2
      exact absurd ⟨w2, w3⟩ h2
    · exact absurd (hkr.mp h1) w3
    · exact ⟨I', w1, w2, w5, w0⟩
  · -- no number
    refine deadn 1 h2 (by decide) h3 ?_
    rcases dn with ⟨w1, w2, w3, -⟩ | ⟨I', w1, w0, w2, ⟨w3, w4⟩ | ⟨w3, w4, w5⟩⟩
    · exact absurd (hkr.mpr w1) h1
    · exact ⟨I', w1, w2, w4, w0⟩
    · exact absurd (hkr.mpr w3) h1
  have ev2 : Jc2 1 5 = vF b st2' (e2' - st2') := h7.2.2.2.2.1 (Or.inr (ck_2.mp h1).1)
  rw [ev2] at h2 h3 h8
  have ey : y = nF b st2' (e2' - st2') := by rw [h8]; exact l2i_n (hval h1)
  have hy1 : 1 ≤ y.toInt := by rw [ey, ← hval h1]; exact h2
  rcases dn with ⟨w1, w2, w3, st3', k3', e3', Ir3, Jr3, d3, tk3', rt3, w4, w5, w6, ar3⟩ | ⟨I', w1, w0, w2, ⟨w3, w4⟩ | ⟨w3, w4, w5⟩⟩
  rotate_left
  · exact absurd (hkr.mp h1) w3
  · exact absurd ⟨by rw [← hval h1]; exact h2, by rw [← hval h1]; exact h3⟩ w4
  obtain ⟨st3, k3, e3, Ic3, Jc3, x, c3, tk3, b3, al3, hh3⟩ := ro_run_4 (L := L) (xs := xs) (d := d) (R := R) (J := Jc2) hG hn9 h5 h7.1 h7.2.1 b2 h7.2.2.2.2.2.1 0 500 0
  obtain ⟨g1, g2, g3⟩ := isTok_u tk3' tk3
  subst g1
  subst g2
  subst g3
  have e7 : (7 + Ir 88 3).toInt = ((7 + np : Nat) : Int) := by
    rw [i_add (by rw [show (7 : Int32).toInt = 7 from by decide]; omega) (by rw [show (7 : Int32).toInt = 7 from by decide]; omega), show (7 : Int32).toInt = 7 from by decide]
    omega
  have ec7 := clamp_s (i := 7 + Ir 88 3) (by omega)
  have ek7 : (7 + Ir 88 3).toNatClampNeg = 7 + np := by omega
  have al123 := alX_t al12 al3
  have cC := fun {v : Option Value} {h' : xH} (hk : xEv L xs (d + 6) 26 60 [.ref 43, .long val, xmk, .int y, .int x] [] (124, Ic3, Jc3, R) v h') => cB (rpA47_3 hG c3 hk)
  -- the reference's rows so far
  have hrow : ∀ c, c ≠ 86 → Ir3 c = Ir c := fun c hc => funext fun q => by rw [ar3.1 c q (by omega), ar2.1 c q (by omega), ar1.1 c q (by omega)]
  have hnm : ∀ i, i ≤ np → Jr3 89 i = if i = np then wF b st1' (e1' - st1') else Jr 89 i := by
    intro i hi
    rw [ar3.2 89 i (by omega), ar2.2 89 i (by omega), ecn]
    by_cases g : i = np
    · rw [if_pos g, g, uL_s, ew1]
    · rw [if_neg g, uL_n _ _ (by omega), ar1.2 89 i (by omega)]
  have fin : ∀ (IcF : Nat → Nat → Int32) (JcF : Nat → Nat → Int64) (IrF : Nat → Nat → Int32) (JrF : Nat → Nat → Int64) (st k e : Nat) (zx : Int32), alX Ic IcF Jc JcF → (IcF 43 2).toInt = 0 → IcF 43 3 = Ic 43 3 → cTok b n IcF JcF st k e → e0 ≤ e → rTok b n IrF JrF st k e → IrF 86 8 = Ir 86 8 → IrF 86 9 = Ir 86 9 → (IrF 88 3).toInt = ((np + 1 : Nat) : Int) → IrF 88 4 = Ir 88 4 → IrF 88 5 = Ir 88 5 → (∀ i, i ≤ np → IrF 90 (7 + i) = if i = np then y else Ir 90 (7 + i)) → (∀ i, i ≤ np → IrF 91 (7 + i) = if i = np then zx else Ir 91 (7 + i)) → (∀ c, 92 ≤ c → c ≤ 100 → IrF c = Ir c) → (∀ i, i ≤ np → JrF 89 i = if i = np then wF b st1' (e1' - st1') else Jr 89 i) → FRr Ir IrF → CL_3 b n e0 Ic Ir (uI (uI (uI IcF 5 (IcF 3 14).toNatClampNeg y) 6 (IcF 3 14).toNatClampNeg zx) 3 14 (IcF 3 14 + 1)) (uL JcF 4 (IcF 3 14).toNatClampNeg val) IrF JrF 1 := by
    intro IcF JcF IrF JrF st k e zx al k1 k2 k3 k4 k5 k6 k7 r1 r2 r3 r4 r5 r6 r7 hFR
    have h14 : (IcF 3 14).toInt = np := by rw [al.1 3 14 (by omega) (by omega)]; exact q1
    have ecf := clamp_s (i := IcF 3 14) (by omega)
    have ekf : (IcF 3 14).toNatClampNeg = np := by omega
    have e1 := i_add1 (x := IcF 3 14) (by omega)
    have eI : ∀ c, (3 ≤ c ∧ c ≤ 17) → IcF c = Ic c := fun c hc => funext fun q => al.1 c q (by omega) (by omega)
    have eJ : ∀ i, JcF 4 i = Jc 4 i := fun i => al.2 4 i (by omega)
    rw [ekf]
    refine ⟨⟨⟨al.1 3 17 (by omega) (by omega), al.1 17 5 (by omega) (by omega), fun c q t1 t2 t3 => by rw [uI_n _ _ (by omega), uI_n _ _ (by omega), uI_n _ _ (by omega), al.1 c q (by omega) (by omega)]⟩, hFR⟩, Or.inr ⟨rfl, k1, k2, k6, k7, st, k, e, np + 1, nm, nn, k4, cTok_c k3 (fun _ => rfl) (fun _ => rfl) (uL_n _ _ (by omega)), k5, ?_⟩⟩
    refine PR_p_3 hP0 (by omega) hl1 hm8 hlt1 y zx hy1 (by show (IcF 3 14 + 1).toInt = _; omega) (by show IcF 3 15 = _; rw [eI 3 (by decide)]) (by show IcF 3 16 = _; rw [eI 3 (by decide)]) ?_ ?_ ?_ ?_ r1 r2 r3 r4 r5 r6 r7
    · intro i
      show uI IcF 5 np y 5 i = _
      by_cases g : i = np
      · rw [if_pos g, g, uI_s]
      · rw [if_neg g, uI_n _ _ (by omega), eI 5 (by decide)]
    · intro i
      show uI (uI IcF 5 np y) 6 np zx 6 i = _
      by_cases g : i = np
      · rw [if_pos g, g, uI_s]
      · rw [if_neg g, uI_n _ _ (by omega), uI_n _ _ (by omega), eI 6 (by decide)]
    · intro c hc1 hc2
      rw [← eI c (by omega)]
      funext q
      rw [uI_n _ _ (by omega), uI_n _ _ (by omega), uI_n _ _ (by omega)]
    · intro i
      by_cases g : i = np
      · rw [if_pos g, g, uL_s, ev1]
      · rw [if_neg g, uL_n _ _ (by omega), eJ]
  have apr : ∀ (x : Int32), (Ic3 43 2).toInt = 0 → xEv L xs (d + 6) 26 60 [.ref 43, .long val, xmk, .int y, .int x] [] (124, Ic3, Jc3, R) none (124, uI (uI (uI Ic3 5 (Ic3 3 14).toNatClampNeg y) 6 (Ic3 3 14).toNatClampNeg x) 3 14 (Ic3 3 14 + 1), uL Jc3 4 (Ic3 3 14).toNatClampNeg val, R) := by
    intro x hx
    have h14 : (Ic3 3 14).toInt = np := by rw [al123.1 3 14 (by omega) (by omega)]; exact q1
    exact rpA60_3 hG hx hR (ap_run_3 (d := d + 4) hG (by omega) (by omega) val y x)
  have hrs : rSo k3' (e3' - st3') = 1 ↔ cKd k3' (e3' - st3') = 1 := by rw [ck_1, rs_1]
  have rts : rTok b n (uI (uI Ir3 90 (7 + Ir 88 3).toNatClampNeg (Ir3 86 11)) 91 (7 + Ir 88 3).toNatClampNeg 0) Jr3 st3' k3' e3' := rTok_c rt3 (fun _ => rfl) (fun _ => rfl) rfl
  have p12 : e0 ≤ e3' := by
    have := tok_prog tk1 (by decide)
    have u := tok_prog tk2 (by intro z; have := (ck_2.mp h1).1; omega)
    have u2 := tk3.1.1
    have u3 := b3
    have u4 : st3' ≤ e3' := rt3.2.2.2.2.2.2.2.2.2
    omega
  rcases ik_run (L := L) (xs := xs) (d := d' + 3) (J := Jr3) hGr rts (K := 4) (j := 4) rfl (by decide) with ⟨gk, dk⟩ | ⟨gk, dk⟩
  rotate_left
  · -- nothing of dying
    rcases hh3 with ⟨u1, u2, u3, u4, u5⟩ | ⟨u1, -⟩
    rotate_left
    · exact absurd ⟨hrs.mpr u1.1, u1.2⟩ gk
    subst u2
    have hF : (uI (uI (uI Ir3 90 (7 + Ir 88 3).toNatClampNeg (Ir3 86 11)) 91 (7 + Ir 88 3).toNatClampNeg 0) 88 3 (Ir3 88 3 + 1)) = (uI (uI (uI Ir3 90 (7 + np) (Ir3 86 11)) 91 (7 + np) 0) 88 3 (Ir3 88 3 + 1)) := by rw [ek7]
    refine ⟨_, _, _, _, 1, cC (apr 0 u3), mp_4 hGr hb7 d1 es1 dz (by omega) en14.1 en14.2 d2 d3 (by omega) (by omega) (by omega) (by omega) dk, ?_⟩
    rw [hF]
    have e31 : (Ir3 88 3 + 1).toInt = ((np + 1 : Nat) : Int) := by rw [hrow 88 (by decide)]; have := i_add1 (x := Ir 88 3) (by omega); omega
    refine fin Ic3 Jc3 _ Jr3 st3' k3' e3' 0 al123 u3 (by rw [u4, h6, f2]) u5 p12 (rTok_c rt3 (fun _ => rfl) (fun _ => rfl) rfl) (by show Ir3 86 8 = _; rw [w5, ar2.1 86 8 (by omega), r8]) (by show Ir3 86 9 = _; rw [w6, ar2.1 86 9 (by omega), r9]) e31 (by show Ir3 88 4 = _; rw [hrow 88 (by decide)]) (by show Ir3 88 5 = _; rw [hrow 88 (by decide)]) ?_ ?_ ?_ hnm (by intro c q t1 t2 t3 t4 t5; repeat (first | rw [uI_n _ _ (by omega)] | rw [ar7.1 c q (by omega)] | rw [ar6.1 c q (by omega)] | rw [ar5.1 c q (by omega)] | rw [ar4.1 c q (by omega)] | rw [ar3.1 c q (by omega)] | rw [ar2.1 c q (by omega)] | rw [ar1.1 c q (by omega)] | rw [w0.1 c q (by omega)] | rw [u0.1 c q (by omega)] | rw [v2.1 c q (by omega)] | rw [z2.1 c q (by omega)]))
    · intro i hi
      show uI Ir3 90 (7 + np) (Ir3 86 11) 90 (7 + i) = _
      by_cases g : i = np
      · rw [if_pos g, g, uI_s, w4, ey]
      · rw [if_neg g, uI_n _ _ (by omega), hrow 90 (by decide)]
    · intro i hi
      show uI (uI Ir3 90 (7 + np) (Ir3 86 11)) 91 (7 + np) 0 91 (7 + i) = _
      by_cases g : i = np
      · rw [if_pos g, g, uI_s]
      · rw [if_neg g, uI_n _ _ (by omega), uI_n _ _ (by omega), hrow 91 (by decide)]
    · intro c hc1 hc2
      rw [← hrow c (by omega)]
      funext q
      rw [uI_n _ _ (by omega), uI_n _ _ (by omega), uI_n _ _ (by omega)]
  -- how often one dies
  rcases hh3 with ⟨u1, -⟩ | ⟨u1, st4, k4, e4, tk4, b4, hh4⟩
  · exact absurd ⟨hrs.mp gk.1, gk.2⟩ u1
  obtain ⟨st4', k4', e4', Ir4, Jr4, d4, tk4', rt4, ar4⟩ := sk_run (L := L) (xs := xs) (d := d' + 1) (R := Rr) (b := b) (n := n) (p := e3') (J := Jr3) hGr (by omega) hn9 rts.1 rts.2.1 b3 rts.2.2.2.2.2.2.2.1
  obtain ⟨g1, g2, g3⟩ := isTok_u tk4' tk4
  subst g1
  subst g2
  subst g3
  have dm := mn_run (L := L) (xs := xs) (d := d') (R := Rr) (b := b) (n := n) (I := Ir4) (J := Jr4) hGr h4 hn9 tk4 rt4 0 500
  have hval4 : cKd k4' (e4' - st4') = 2 → (vF b st4' (e4' - st4')).toInt = (nF b st4' (e4' - st4')).toInt := by
    intro hk
    obtain ⟨u1, u2⟩ := ck_2.mp hk
    subst u1
    obtain ⟨u3, u4⟩ := tok_n tk4
    exact (num_eq u3 u2 u4).1
  have hkr4 : cKd k4' (e4' - st4') = 2 ↔ rSo k4' (e4' - st4') = 2 := by rw [ck_2, rs_2]
  have deadm : ∀ (kd' : Int), (Ic3 43 2).toInt = kd' → kd' ≠ 0 → (Ic3 43 3).toInt = st4' → (∃ I' : Nat → Nat → Int32, xEv L xs (d' + 3) 159 0 [.ref 86, .int 0, .int 500] [] (124, Ir4, Jr4, Rr) (some (.int 0)) (124, I', Jr4, Rr) ∧ (I' 86 9).toInt = st4' ∧ (I' 86 8).toInt = kd' ∧ alM Ir4 I' Jr4 Jr4) → ∃ (Ic' : Nat → Nat → Int32) (Jc' : Nat → Nat → Int64) (Ir' : Nat → Nat → Int32) (Jr' : Nat → Nat → Int64) (w : Int32), xEv L xs (d + 6) 26 0 [.ref 43, xmk, xmk, xmk, xmk] [] (124, Ic, Jc, R) none (124, Ic', Jc', R) ∧ xEv L xs (d' + 4) 156 0 [.ref 86, xmk] [] (124, Ir, Jr, Rr) (some (.int w)) (124, Ir', Jr', Rr) ∧ CL_3 b n e0 Ic Ir Ic' Jc' Ir' Jr' w := by
    rintro kd' u1 u2 u3 ⟨I', u4, u5, u6, u0⟩
    exact ⟨_, _, _, _, 0, cC (rpD60_3 hG (by omega)), mp_5 hGr hb7 d1 es1 dz (by omega) en14.1 en14.2 d2 d3 (by omega) (by omega) (by omega) (by omega) dk d4 u4, ⟨alc al123, (by intro c q t1 t2 t3 t4 t5; repeat (first | rw [uI_n _ _ (by omega)] | rw [ar7.1 c q (by omega)] | rw [ar6.1 c q (by omega)] | rw [ar5.1 c q (by omega)] | rw [ar4.1 c q (by omega)] | rw [ar3.1 c q (by omega)] | rw [ar2.1 c q (by omega)] | rw [ar1.1 c q (by omega)] | rw [w0.1 c q (by omega)] | rw [u0.1 c q (by omega)] | rw [v2.1 c q (by omega)] | rw [z2.1 c q (by omega)]))⟩, Or.inl ⟨rfl, by omega, by omega, by omega⟩⟩
  rcases hh4 with ⟨v1, v2, v3, v4, v5, v6, st5, k5, e5, tk5, ct5⟩ | ⟨v1, v2, v3, v4⟩ | ⟨v1, v2, v3⟩
  rotate_left
  · refine deadm 2 v3 (by decide) v4 ?_
    rcases dm with ⟨w1, w2, w3, -⟩ | ⟨I', w1, w0, w2, ⟨w3, w4⟩ | ⟨w3, w4, w5⟩⟩
    · rw [hval4 v1] at v2
      exact absurd ⟨w2, w3⟩ v2
    · exact absurd (hkr4.mp v1) w3
    · exact ⟨I', w1, w2, w5, w0⟩
  · refine deadm 1 v2 (by decide) v3 ?_
    rcases dm with ⟨w1, w2, w3, -⟩ | ⟨I', w1, w0, w2, ⟨w3, w4⟩ | ⟨w3, w4, w5⟩⟩
    · exact absurd (hkr4.mpr w1) v1
    · exact ⟨I', w1, w2, w4, w0⟩
    · exact absurd (hkr4.mpr w3) v1
  rcases dm with ⟨z1, z2, z3, st5', k5', e5', Ir5, Jr5, d5, tk5', rt5, z4, z5, z6, ar5⟩ | ⟨I', z1, -, z2, ⟨z3, z4⟩ | ⟨z3, z4, z5⟩⟩
  rotate_left
  · exact absurd (hkr4.mp v1) z3
  · exact absurd ⟨by rw [← hval4 v1]; exact v2, by rw [← hval4 v1]; exact v3⟩ z4
  obtain ⟨g1, g2, g3⟩ := isTok_u tk5' tk5
  subst g1
  subst g2
  subst g3
  have ex : x = nF b st4' (e4' - st4') := by rw [v4]; exact l2i_n (hval4 v1)
  have hF : (uI (uI Ir5 91 (7 + Ir 88 3).toNatClampNeg (Ir5 86 11)) 88 3 (Ir5 88 3 + 1)) = (uI (uI Ir5 91 (7 + np) (Ir5 86 11)) 88 3 (Ir5 88 3 + 1)) := by rw [ek7]
  rw [ek7] at ar4
  have hrow5 : ∀ c, c ≠ 86 → Ir5 c = uI (uI Ir3 90 (7 + np) (Ir3 86 11)) 91 (7 + np) 0 c := fun c hc => funext fun q => by rw [ar5.1 c q (by omega), ar4.1 c q (by omega)]
  have eNU : Ir5 88 3 = Ir 88 3 := by rw [hrow5 88 (by decide)]; show Ir3 88 3 = _; rw [hrow 88 (by decide)]
  have p5 : e0 ≤ e5' := by
    have u := tok_prog tk4 (by intro z; have := (ck_2.mp v1).1; omega)
    have u2 := tk5.1.1
    have u3 : st5' ≤ e5' := rt5.2.2.2.2.2.2.2.2.2
    omega
  refine ⟨_, _, _, _, 1, cC (apr x v5), mp_6 hGr hb7 d1 es1 dz (by omega) en14.1 en14.2 d2 d3 (by omega) (by omega) (by omega) (by omega) dk d4 d5 (by omega) (by omega), ?_⟩
  rw [hF]
  have e31 : (Ir5 88 3 + 1).toInt = ((np + 1 : Nat) : Int) := by rw [eNU]; have := i_add1 (x := Ir 88 3) (by omega); omega
  refine fin Ic3 Jc3 _ Jr5 st5' k5' e5' x al123 v5 (by rw [v6, h6, f2]) ct5 p5 (rTok_c rt5 (fun _ => rfl) (fun _ => rfl) rfl) (by show Ir5 86 8 = _; rw [z5, ar4.1 86 8 (by omega)]; show Ir3 86 8 = _; rw [w5, ar2.1 86 8 (by omega), r8]) (by show Ir5 86 9 = _; rw [z6, ar4.1 86 9 (by omega)]; show Ir3 86 9 = _; rw [w6, ar2.1 86 9 (by omega), r9]) e31 (by show Ir5 88 4 = _; rw [hrow5 88 (by decide)]; show Ir3 88 4 = _; rw [hrow 88 (by decide)]) (by show Ir5 88 5 = _; rw [hrow5 88 (by decide)]; show Ir3 88 5 = _; rw [hrow 88 (by decide)]) ?_ ?_ ?_ ?_ (by intro c q t1 t2 t3 t4 t5; repeat (first | rw [uI_n _ _ (by omega)] | rw [ar7.1 c q (by omega)] | rw [ar6.1 c q (by omega)] | rw [ar5.1 c q (by omega)] | rw [ar4.1 c q (by omega)] | rw [ar3.1 c q (by omega)] | rw [ar2.1 c q (by omega)] | rw [ar1.1 c q (by omega)] | rw [w0.1 c q (by omega)] | rw [u0.1 c q (by omega)] | rw [v2.1 c q (by omega)] | rw [z2.1 c q (by omega)]))
  · intro i hi
    show Ir5 90 (7 + i) = _
    rw [hrow5 90 (by decide)]
    show uI Ir3 90 (7 + np) (Ir3 86 11) 90 (7 + i) = _
    by_cases g : i = np
    · rw [if_pos g, g, uI_s, w4, ey]
    · rw [if_neg g, uI_n _ _ (by omega), hrow 90 (by decide)]
  · intro i hi
    show uI Ir5 91 (7 + np) (Ir5 86 11) 91 (7 + i) = _
    by_cases g : i = np
    · rw [if_pos g, g, uI_s, z4, ex]
    · rw [if_neg g, uI_n _ _ (by omega), hrow5 91 (by decide), uI_n _ _ (by omega), uI_n _ _ (by omega), hrow 91 (by decide)]
  · intro c hc1 hc2
    have hz : uI (uI Ir5 91 (7 + np) (Ir5 86 11)) 88 3 (Ir5 88 3 + 1) c = Ir5 c := by
      funext q
      rw [uI_n _ _ (by omega), uI_n _ _ (by omega)]
    rw [hz, hrow5 c (by omega), ← hrow c (by omega)]
    funext q
    rw [uI_n _ _ (by omega), uI_n _ _ (by omega)]
  · intro i hi
    rw [ar5.2 89 i (by omega), ar4.2 89 i (by omega)]
    exact hnm i hi
end PF3
section PF23
variable {L : Nat} {xs : Nat → Int32} {d d' : Nat} {R Rr : Nat → Nat → Nat}
theorem person_23 (hG : aGd R) (hR : R 43 1 = 24) (hGr : aGd Rr) (h4 : 4 ≤ d' + 1) {b : Nat → Int32} {n st0 k0 e0 np nm nn : Nat} (hn9 : n ≤ 900) {Ic Ir : Nat → Nat → Int32} {Jc Jr : Nat → Nat → Int64} (h0 : (Ic 43 2).toInt = 0) (hc : cTok b n Ic Jc st0 k0 e0) (hr : rTok b n Ir Jr st0 k0 e0) (hP : PR_23 b np nm nn Ic Jc Ir Jr) : ∃ (Ic' : Nat → Nat → Int32) (Jc' : Nat → Nat → Int64) (Ir' : Nat → Nat → Int32) (Jr' : Nat → Nat → Int64) (w : Int32), xEv L xs (d + 6) 26 0 [.ref 43, xmk, xmk, xmk, xmk] [] (124, Ic, Jc, R) none (124, Ic', Jc', R) ∧ xEv L xs (d' + 4) 156 0 [.ref 86, xmk] [] (124, Ir, Jr, Rr) (some (.int w)) (124, Ir', Jr', Rr) ∧ CL_23 b n e0 Ic Ir Ic' Jc' Ir' Jr' w := by
  have hP0 := hP
  obtain ⟨⟨p1, p2, p3⟩, ⟨q1, q2⟩, ⟨q3, q4⟩, ⟨q5, q6⟩, q7, q8, q9, q10, q11, q12⟩ := hP
  obtain ⟨x1, x2, x3, x4, x5, x6, x7, x8⟩ := hc
  have hr0 := hr
  obtain ⟨y1, y2, y3, y4, y5, y6, y7, y8, y9, y10⟩ := hr
  have alc : ∀ {I I' : Nat → Nat → Int32} {J J' : Nat → Nat → Int64}, alX I I' J J' → I' 23 17 = I 23 17 ∧ I' 37 5 = I 37 5 ∧ FRc_23 I I' := fun al => ⟨al.1 23 17 (by omega) (by omega), al.1 37 5 (by omega) (by omega), fun c q t1 t2 t3 => al.1 c q (by omega) (by omega)⟩
  by_cases hfull : np = 7
  · -- no room
    have cf := fl_a (L := L) (xs := xs) (d := d + 5) (I := Ic) (J := Jc) (k := 4) hG h0
    refine ⟨_, _, _, _, 0, rpA0f_23 hG hR (by omega) cf (rpd17_23 (d := d + 4) (I := uI (uI Ic 43 2 4) 43 3 (Ic 1 4)) hG hR (m := np) q1 p1 (by show ((4 : Int32)).toInt ≠ 0; decide) _ _ _ _), mp_0 hGr (by omega) (fa_run hGr), ⟨alc (alX_F (J := Jc) _ _), (by intro c q t1 t2 t3 t4 t5; repeat (first | rw [uI_n _ _ (by omega)] | rw [ar7.1 c q (by omega)] | rw [ar6.1 c q (by omega)] | rw [ar5.1 c q (by omega)] | rw [ar4.1 c q (by omega)] | rw [ar3.1 c q (by omega)] | rw [ar2.1 c q (by omega)] | rw [ar1.1 c q (by omega)] | rw [w0.1 c q (by omega)] | rw [u0.1 c q (by omega)] | rw [v2.1 c q (by omega)] | rw [z2.1 c q (by omega)]))⟩, Or.inl ⟨rfl, by show ((4 : Int32)).toInt ≠ 0; decide, rfl, ?_⟩⟩
    show (Ic 1 4).toInt = (Ir 86 5).toInt
    omega
  -- the name
  obtain ⟨st1, k1, e1, Ic1, Jc1, val, c1, tk1, a1, a2, al1, hh1⟩ := tk_run (L := L) (xs := xs) (d := d + 3) (R := R) (J := Jc) hG hn9 h0 x1 x2 x7 x6 (K := 1) (K' := 1) (by decide)
  obtain ⟨st1', k1', e1', Ir1, Jr1, d1, tk1', rt1, ar1⟩ := sk_run (L := L) (xs := xs) (d := d' + 1) (R := Rr) (b := b) (n := n) (p := e0) (I := Ir) (J := Jr) hGr (by omega) hn9 y1 y2 y9 y8
  obtain ⟨g1, g2, g3⟩ := isTok_u tk1' tk1
  subst g1
  subst g2
  subst g3
  have r8 : Ir1 86 8 = Ir 86 8 := ar1.1 86 8 (by omega)
  have r9 : Ir1 86 9 = Ir 86 9 := ar1.1 86 9 (by omega)
  have rnu : Ir1 88 3 = Ir 88 3 := ar1.1 88 3 (by omega)
  have hm1 : (Ic1 23 14).toInt = np := by rw [al1.1 23 14 (by omega) (by omega)]; exact q1
  have hb7 : (Ir 88 3).toInt ≠ 7 := by omega
  have cA := fun {v : Option Value} {h' : xH} (hk : xEv L xs (d + 6) 26 23 [.ref 43, .long val, xmk, xmk, xmk] [] (124, Ic1, Jc1, R) v h') => rpA0_23 hG hR (by omega) (rpA17_23 hG c1 hk)
  rcases hh1 with ⟨hk1, f1, f2, f3, f4⟩ | ⟨hk1, f1, f2⟩
  rotate_left
  · -- no word
    refine ⟨_, _, _, _, 0, cA (rpd23_23 (d := d + 4) hG hR hm1 p1 (by omega) _ _ _), mp_1 hGr hb7 d1 (by rw [rt1.2.2.1]; intro z; exact hk1 (ck_1.mpr (rs_1.mp (by omega)))) (fa_run hGr), ⟨alc al1, (by intro c q t1 t2 t3 t4 t5; repeat (first | rw [uI_n _ _ (by omega)] | rw [ar7.1 c q (by omega)] | rw [ar6.1 c q (by omega)] | rw [ar5.1 c q (by omega)] | rw [ar4.1 c q (by omega)] | rw [ar3.1 c q (by omega)] | rw [ar2.1 c q (by omega)] | rw [ar1.1 c q (by omega)] | rw [w0.1 c q (by omega)] | rw [u0.1 c q (by omega)] | rw [v2.1 c q (by omega)] | rw [z2.1 c q (by omega)]))⟩, Or.inl ⟨rfl, by omega, ?_, ?_⟩⟩
    · show (Ic1 43 2).toInt = ((1 : Int32)).toInt
      rw [f1]; rfl
    · show (Ic1 43 3).toInt = (Ir1 86 5).toInt
      rw [f2, rt1.2.2.2.1]
  obtain ⟨ek1, hm8⟩ := ck_1.mp hk1
  subst ek1
  obtain ⟨hl1, hlt1⟩ := tok_w tk1
  have es1 : (Ir1 86 3).toInt = 1 := by rw [rt1.2.2.1, rs_1.mpr ⟨rfl, hm8⟩]; rfl
  have ev1 : val = vF b st1' (e1' - st1') := by rw [f4]; exact f3.2.2.2.2.1 (Or.inl rfl)
  have ew1 : Jr1 86 10 = wF b st1' (e1' - st1') := rt1.2.2.2.2.1 rfl
  obtain ⟨z, cz, hz⟩ := pn_run_23 (L := L) (xs := xs) (d := d + 5) (J := Jc1) (I := Ic1) hG hm1 p1 val
  obtain ⟨z', dz, hz'⟩ := nd_run (L := L) (xs := xs) (d := d' + 3) (I := Ir1) (J := Jr1) hGr (m := np) (by rw [rnu]; exact q2) p1
  have ezz : z.toInt = z'.toInt := by
    refine isIx_u (eq := fun i => Jc1 24 i = val) (eq' := fun i => Jr1 89 i = Jr1 86 10) (m := np) (by
      rcases hz with ⟨u1, u2⟩ | ⟨i, u1, u2, u3, u4⟩
      · exact Or.inl ⟨u1, u2⟩
      · exact Or.inr ⟨i, u1, u2, u3, u4⟩) hz' (fun i hi => ?_)
    obtain ⟨-, -, -, st, m, w1, w2, w3, w4, w5⟩ := q7 i hi
    rw [al1.2 24 i (by omega), ar1.2 89 i (by omega), w4, w5, ev1, ew1]
    exact word_eq w2 hm8 w3 hlt1
  by_cases hzn : z.toInt = -1
  rotate_left
  · -- twice
    have cf := fl_a (L := L) (xs := xs) (d := d + 5) (I := Ic1) (J := Jc1) (k := 3) hG f1
    refine ⟨_, _, _, _, 0, cA (rpA23f_23 hG hR cz hzn cf (rpd40_23 (d := d + 4) hG (by show ((3 : Int32)).toInt ≠ 0; decide) _ _ _)), mp_2 hGr hb7 d1 es1 dz (by omega) (fa_run hGr), ⟨alc (alX_t al1 (alX_F _ _)), (by intro c q t1 t2 t3 t4 t5; repeat (first | rw [uI_n _ _ (by omega)] | rw [ar7.1 c q (by omega)] | rw [ar6.1 c q (by omega)] | rw [ar5.1 c q (by omega)] | rw [ar4.1 c q (by omega)] | rw [ar3.1 c q (by omega)] | rw [ar2.1 c q (by omega)] | rw [ar1.1 c q (by omega)] | rw [w0.1 c q (by omega)] | rw [u0.1 c q (by omega)] | rw [v2.1 c q (by omega)] | rw [z2.1 c q (by omega)]))⟩, Or.inl ⟨rfl, by show ((3 : Int32)).toInt ≠ 0; decide, rfl, ?_⟩⟩
    show (Ic1 1 4).toInt = (Ir1 86 5).toInt
    rw [f3.2.2.2.1, rt1.2.2.2.1]
  -- how many pieces
  have en14 : 0 ≤ (Ir 88 3).toInt ∧ (Ir 88 3).toInt < 7 := by omega
  have ecl := clamp_s (i := Ir 88 3) en14.1
  have ecn : (Ir 88 3).toNatClampNeg = np := by omega
  have al1b : alS Ir1 Ir1 Jr1 Jr1 := alS_r _ _
  obtain ⟨st2, k2, e2, Ic2, Jc2, y, c2, tk2, b1, b2, al2, hh2⟩ := nu_run (L := L) (xs := xs) (d := d + 2) (R := R) (J := Jc1) hG hn9 f1 f3.1 f3.2.1 a2 f3.2.2.2.2.2.1 1 3
  have rtn : rTok b n Ir1 (uL Jr1 89 (Ir 88 3).toNatClampNeg (Jr1 86 10)) st1' 1 e1' := rTok_c rt1 (fun _ => rfl) (fun _ => rfl) (uL_n _ _ (by omega))
  obtain ⟨st2', k2', e2', Ir2, Jr2, d2, tk2', rt2, ar2⟩ := sk_run (L := L) (xs := xs) (d := d' + 1) (R := Rr) (b := b) (n := n) (p := e1') (I := Ir1) (J := uL Jr1 89 (Ir 88 3).toNatClampNeg (Jr1 86 10)) hGr (by omega) hn9 rtn.1 rtn.2.1 a2 rtn.2.2.2.2.2.2.2.1
  obtain ⟨g1, g2, g3⟩ := isTok_u tk2' tk2
  subst g1
  subst g2
  subst g3
  have cB := fun {v : Option Value} {h' : xH} (hk : xEv L xs (d + 6) 26 47 [.ref 43, .long val, xmk, .int y, xmk] [] (124, Ic2, Jc2, R) v h') => cA (rpA23_23 hG hR cz hzn (rpA40_23 hG c2 hk))
  have al12 := alX_t al1 al2
  have dn := mn_run (L := L) (xs := xs) (d := d') (R := Rr) (b := b) (n := n) (I := Ir2) (J := Jr2) hGr h4 hn9 tk2 rt2 1 3
  have hval : cKd k2' (e2' - st2') = 2 → (vF b st2' (e2' - st2')).toInt = (nF b st2' (e2' - st2')).toInt := by
    intro hk
    obtain ⟨u1, u2⟩ := ck_2.mp hk
    subst u1
    obtain ⟨u3, u4⟩ := tok_n tk2
    exact (num_eq u3 u2 u4).1
  have hkr : cKd k2' (e2' - st2') = 2 ↔ rSo k2' (e2' - st2') = 2 := by rw [ck_2, rs_2]
  have deadn : ∀ (kd' : Int), (Ic2 43 2).toInt = kd' → kd' ≠ 0 → (Ic2 43 3).toInt = st2' → (∃ I' : Nat → Nat → Int32, xEv L xs (d' + 3) 159 0 [.ref 86, .int 1, .int 3] [] (124, Ir2, Jr2, Rr) (some (.int 0)) (124, I', Jr2, Rr) ∧ (I' 86 9).toInt = st2' ∧ (I' 86 8).toInt = kd' ∧ alM Ir2 I' Jr2 Jr2) → ∃ (Ic' : Nat → Nat → Int32) (Jc' : Nat → Nat → Int64) (Ir' : Nat → Nat → Int32) (Jr' : Nat → Nat → Int64) (w : Int32), xEv L xs (d + 6) 26 0 [.ref 43, xmk, xmk, xmk, xmk] [] (124, Ic, Jc, R) none (124, Ic', Jc', R) ∧ xEv L xs (d' + 4) 156 0 [.ref 86, xmk] [] (124, Ir, Jr, Rr) (some (.int w)) (124, Ir', Jr', Rr) ∧ CL_23 b n e0 Ic Ir Ic' Jc' Ir' Jr' w := by
    rintro kd' u1 u2 u3 ⟨I', u4, u5, u6, u0⟩
    exact ⟨_, _, _, _, 0, cB (rpd47_23 (d := d + 4) hG (by omega) _ _ _), mp_3 hGr hb7 d1 es1 dz (by omega) en14.1 en14.2 d2 u4, ⟨alc al12, (by intro c q t1 t2 t3 t4 t5; repeat (first | rw [uI_n _ _ (by omega)] | rw [ar7.1 c q (by omega)] | rw [ar6.1 c q (by omega)] | rw [ar5.1 c q (by omega)] | rw [ar4.1 c q (by omega)] | rw [ar3.1 c q (by omega)] | rw [ar2.1 c q (by omega)] | rw [ar1.1 c q (by omega)] | rw [w0.1 c q (by omega)] | rw [u0.1 c q (by omega)] | rw [v2.1 c q (by omega)] | rw [z2.1 c q (by omega)]))⟩, Or.inl ⟨rfl, by omega, by omega, by omega⟩⟩
  rcases hh2 with ⟨h1, h2, h3, h5, h6, h7, h8⟩ | ⟨h1, h2, h3, h5⟩ | ⟨h1, h2, h3⟩
  rotate_left
  · -- out of bounds
    refine deadn 2 h3 (by decide) h5 ?_
    rcases dn with ⟨w1, w2, w3, -⟩ | ⟨I', w1, w0, w2, ⟨w3, w4⟩ | ⟨w3, w4, w5⟩⟩
    · rw [hval h1] at h2
      exact absurd ⟨w2, w3⟩ h2
    · exact absurd (hkr.mp h1) w3
    · exact ⟨I', w1, w2, w5, w0⟩
  · -- no number
    refine deadn 1 h2 (by decide) h3 ?_
    rcases dn with ⟨w1, w2, w3, -⟩ | ⟨I', w1, w0, w2, ⟨w3, w4⟩ | ⟨w3, w4, w5⟩⟩
    · exact absurd (hkr.mpr w1) h1
    · exact ⟨I', w1, w2, w4, w0⟩
    · exact absurd (hkr.mpr w3) h1
  have ev2 : Jc2 1 5 = vF b st2' (e2' - st2') := h7.2.2.2.2.1 (Or.inr (ck_2.mp h1).1)
  rw [ev2] at h2 h3 h8
  have ey : y = nF b st2' (e2' - st2') := by rw [h8]; exact l2i_n (hval h1)
  have hy1 : 1 ≤ y.toInt := by rw [ey, ← hval h1]; exact h2
  rcases dn with ⟨w1, w2, w3, st3', k3', e3', Ir3, Jr3, d3, tk3', rt3, w4, w5, w6, ar3⟩ | ⟨I', w1, w0, w2, ⟨w3, w4⟩ | ⟨w3, w4, w5⟩⟩
  rotate_left
  · exact absurd (hkr.mp h1) w3
  · exact absurd ⟨by rw [← hval h1]; exact h2, by rw [← hval h1]; exact h3⟩ w4
  obtain ⟨st3, k3, e3, Ic3, Jc3, x, c3, tk3, b3, al3, hh3⟩ := ro_run_4 (L := L) (xs := xs) (d := d) (R := R) (J := Jc2) hG hn9 h5 h7.1 h7.2.1 b2 h7.2.2.2.2.2.1 0 500 0
  obtain ⟨g1, g2, g3⟩ := isTok_u tk3' tk3
  subst g1
  subst g2
  subst g3
  have e7 : (7 + Ir 88 3).toInt = ((7 + np : Nat) : Int) := by
    rw [i_add (by rw [show (7 : Int32).toInt = 7 from by decide]; omega) (by rw [show (7 : Int32).toInt = 7 from by decide]; omega), show (7 : Int32).toInt = 7 from by decide]
    omega
  have ec7 := clamp_s (i := 7 + Ir 88 3) (by omega)
  have ek7 : (7 + Ir 88 3).toNatClampNeg = 7 + np := by omega
  have al123 := alX_t al12 al3
  have cC := fun {v : Option Value} {h' : xH} (hk : xEv L xs (d + 6) 26 60 [.ref 43, .long val, xmk, .int y, .int x] [] (124, Ic3, Jc3, R) v h') => cB (rpA47_23 hG c3 hk)
  -- the reference's rows so far
  have hrow : ∀ c, c ≠ 86 → Ir3 c = Ir c := fun c hc => funext fun q => by rw [ar3.1 c q (by omega), ar2.1 c q (by omega), ar1.1 c q (by omega)]
  have hnm : ∀ i, i ≤ np → Jr3 89 i = if i = np then wF b st1' (e1' - st1') else Jr 89 i := by
    intro i hi
    rw [ar3.2 89 i (by omega), ar2.2 89 i (by omega), ecn]
    by_cases g : i = np
    · rw [if_pos g, g, uL_s, ew1]
    · rw [if_neg g, uL_n _ _ (by omega), ar1.2 89 i (by omega)]
  have fin : ∀ (IcF : Nat → Nat → Int32) (JcF : Nat → Nat → Int64) (IrF : Nat → Nat → Int32) (JrF : Nat → Nat → Int64) (st k e : Nat) (zx : Int32), alX Ic IcF Jc JcF → (IcF 43 2).toInt = 0 → IcF 43 3 = Ic 43 3 → cTok b n IcF JcF st k e → e0 ≤ e → rTok b n IrF JrF st k e → IrF 86 8 = Ir 86 8 → IrF 86 9 = Ir 86 9 → (IrF 88 3).toInt = ((np + 1 : Nat) : Int) → IrF 88 4 = Ir 88 4 → IrF 88 5 = Ir 88 5 → (∀ i, i ≤ np → IrF 90 (7 + i) = if i = np then y else Ir 90 (7 + i)) → (∀ i, i ≤ np → IrF 91 (7 + i) = if i = np then zx else Ir 91 (7 + i)) → (∀ c, 92 ≤ c → c ≤ 100 → IrF c = Ir c) → (∀ i, i ≤ np → JrF 89 i = if i = np then wF b st1' (e1' - st1') else Jr 89 i) → FRr Ir IrF → CL_23 b n e0 Ic Ir (uI (uI (uI IcF 25 (IcF 23 14).toNatClampNeg y) 26 (IcF 23 14).toNatClampNeg zx) 23 14 (IcF 23 14 + 1)) (uL JcF 24 (IcF 23 14).toNatClampNeg val) IrF JrF 1 := by
    intro IcF JcF IrF JrF st k e zx al k1 k2 k3 k4 k5 k6 k7 r1 r2 r3 r4 r5 r6 r7 hFR
    have h14 : (IcF 23 14).toInt = np := by rw [al.1 23 14 (by omega) (by omega)]; exact q1
    have ecf := clamp_s (i := IcF 23 14) (by omega)
    have ekf : (IcF 23 14).toNatClampNeg = np := by omega
    have e1 := i_add1 (x := IcF 23 14) (by omega)
    have eI : ∀ c, (23 ≤ c ∧ c ≤ 37) → IcF c = Ic c := fun c hc => funext fun q => al.1 c q (by omega) (by omega)
    have eJ : ∀ i, JcF 24 i = Jc 24 i := fun i => al.2 24 i (by omega)
    rw [ekf]
    refine ⟨⟨⟨al.1 23 17 (by omega) (by omega), al.1 37 5 (by omega) (by omega), fun c q t1 t2 t3 => by rw [uI_n _ _ (by omega), uI_n _ _ (by omega), uI_n _ _ (by omega), al.1 c q (by omega) (by omega)]⟩, hFR⟩, Or.inr ⟨rfl, k1, k2, k6, k7, st, k, e, np + 1, nm, nn, k4, cTok_c k3 (fun _ => rfl) (fun _ => rfl) (uL_n _ _ (by omega)), k5, ?_⟩⟩
    refine PR_p_23 hP0 (by omega) hl1 hm8 hlt1 y zx hy1 (by show (IcF 23 14 + 1).toInt = _; omega) (by show IcF 23 15 = _; rw [eI 23 (by decide)]) (by show IcF 23 16 = _; rw [eI 23 (by decide)]) ?_ ?_ ?_ ?_ r1 r2 r3 r4 r5 r6 r7
    · intro i
      show uI IcF 25 np y 25 i = _
      by_cases g : i = np
      · rw [if_pos g, g, uI_s]
      · rw [if_neg g, uI_n _ _ (by omega), eI 25 (by decide)]
    · intro i
      show uI (uI IcF 25 np y) 26 np zx 26 i = _
      by_cases g : i = np
      · rw [if_pos g, g, uI_s]
      · rw [if_neg g, uI_n _ _ (by omega), uI_n _ _ (by omega), eI 26 (by decide)]
    · intro c hc1 hc2
      rw [← eI c (by omega)]
      funext q
      rw [uI_n _ _ (by omega), uI_n _ _ (by omega), uI_n _ _ (by omega)]
    · intro i
      by_cases g : i = np
      · rw [if_pos g, g, uL_s, ev1]
      · rw [if_neg g, uL_n _ _ (by omega), eJ]
  have apr : ∀ (x : Int32), (Ic3 43 2).toInt = 0 → xEv L xs (d + 6) 26 60 [.ref 43, .long val, xmk, .int y, .int x] [] (124, Ic3, Jc3, R) none (124, uI (uI (uI Ic3 25 (Ic3 23 14).toNatClampNeg y) 26 (Ic3 23 14).toNatClampNeg x) 23 14 (Ic3 23 14 + 1), uL Jc3 24 (Ic3 23 14).toNatClampNeg val, R) := by
    intro x hx
    have h14 : (Ic3 23 14).toInt = np := by rw [al123.1 23 14 (by omega) (by omega)]; exact q1
    exact rpA60_23 hG hx hR (ap_run_23 (d := d + 4) hG (by omega) (by omega) val y x)
  have hrs : rSo k3' (e3' - st3') = 1 ↔ cKd k3' (e3' - st3') = 1 := by rw [ck_1, rs_1]
  have rts : rTok b n (uI (uI Ir3 90 (7 + Ir 88 3).toNatClampNeg (Ir3 86 11)) 91 (7 + Ir 88 3).toNatClampNeg 0) Jr3 st3' k3' e3' := rTok_c rt3 (fun _ => rfl) (fun _ => rfl) rfl
  have p12 : e0 ≤ e3' := by
    have := tok_prog tk1 (by decide)
    have u := tok_prog tk2 (by intro z; have := (ck_2.mp h1).1; omega)
    have u2 := tk3.1.1
    have u3 := b3
    have u4 : st3' ≤ e3' := rt3.2.2.2.2.2.2.2.2.2
    omega
  rcases ik_run (L := L) (xs := xs) (d := d' + 3) (J := Jr3) hGr rts (K := 4) (j := 4) rfl (by decide) with ⟨gk, dk⟩ | ⟨gk, dk⟩
  rotate_left
  · -- nothing of dying
    rcases hh3 with ⟨u1, u2, u3, u4, u5⟩ | ⟨u1, -⟩
    rotate_left
    · exact absurd ⟨hrs.mpr u1.1, u1.2⟩ gk
    subst u2
    have hF : (uI (uI (uI Ir3 90 (7 + Ir 88 3).toNatClampNeg (Ir3 86 11)) 91 (7 + Ir 88 3).toNatClampNeg 0) 88 3 (Ir3 88 3 + 1)) = (uI (uI (uI Ir3 90 (7 + np) (Ir3 86 11)) 91 (7 + np) 0) 88 3 (Ir3 88 3 + 1)) := by rw [ek7]
    refine ⟨_, _, _, _, 1, cC (apr 0 u3), mp_4 hGr hb7 d1 es1 dz (by omega) en14.1 en14.2 d2 d3 (by omega) (by omega) (by omega) (by omega) dk, ?_⟩
    rw [hF]
    have e31 : (Ir3 88 3 + 1).toInt = ((np + 1 : Nat) : Int) := by rw [hrow 88 (by decide)]; have := i_add1 (x := Ir 88 3) (by omega); omega
    refine fin Ic3 Jc3 _ Jr3 st3' k3' e3' 0 al123 u3 (by rw [u4, h6, f2]) u5 p12 (rTok_c rt3 (fun _ => rfl) (fun _ => rfl) rfl) (by show Ir3 86 8 = _; rw [w5, ar2.1 86 8 (by omega), r8]) (by show Ir3 86 9 = _; rw [w6, ar2.1 86 9 (by omega), r9]) e31 (by show Ir3 88 4 = _; rw [hrow 88 (by decide)]) (by show Ir3 88 5 = _; rw [hrow 88 (by decide)]) ?_ ?_ ?_ hnm (by intro c q t1 t2 t3 t4 t5; repeat (first | rw [uI_n _ _ (by omega)] | rw [ar7.1 c q (by omega)] | rw [ar6.1 c q (by omega)] | rw [ar5.1 c q (by omega)] | rw [ar4.1 c q (by omega)] | rw [ar3.1 c q (by omega)] | rw [ar2.1 c q (by omega)] | rw [ar1.1 c q (by omega)] | rw [w0.1 c q (by omega)] | rw [u0.1 c q (by omega)] | rw [v2.1 c q (by omega)] | rw [z2.1 c q (by omega)]))
    · intro i hi
      show uI Ir3 90 (7 + np) (Ir3 86 11) 90 (7 + i) = _
      by_cases g : i = np
      · rw [if_pos g, g, uI_s, w4, ey]
      · rw [if_neg g, uI_n _ _ (by omega), hrow 90 (by decide)]
    · intro i hi
      show uI (uI Ir3 90 (7 + np) (Ir3 86 11)) 91 (7 + np) 0 91 (7 + i) = _
      by_cases g : i = np
      · rw [if_pos g, g, uI_s]
      · rw [if_neg g, uI_n _ _ (by omega), uI_n _ _ (by omega), hrow 91 (by decide)]
    · intro c hc1 hc2
      rw [← hrow c (by omega)]
      funext q
      rw [uI_n _ _ (by omega), uI_n _ _ (by omega), uI_n _ _ (by omega)]
  -- how often one dies
  rcases hh3 with ⟨u1, -⟩ | ⟨u1, st4, k4, e4, tk4, b4, hh4⟩
  · exact absurd ⟨hrs.mp gk.1, gk.2⟩ u1
  obtain ⟨st4', k4', e4', Ir4, Jr4, d4, tk4', rt4, ar4⟩ := sk_run (L := L) (xs := xs) (d := d' + 1) (R := Rr) (b := b) (n := n) (p := e3') (J := Jr3) hGr (by omega) hn9 rts.1 rts.2.1 b3 rts.2.2.2.2.2.2.2.1
  obtain ⟨g1, g2, g3⟩ := isTok_u tk4' tk4
  subst g1
  subst g2
  subst g3
  have dm := mn_run (L := L) (xs := xs) (d := d') (R := Rr) (b := b) (n := n) (I := Ir4) (J := Jr4) hGr h4 hn9 tk4 rt4 0 500
  have hval4 : cKd k4' (e4' - st4') = 2 → (vF b st4' (e4' - st4')).toInt = (nF b st4' (e4' - st4')).toInt := by
    intro hk
    obtain ⟨u1, u2⟩ := ck_2.mp hk
    subst u1
    obtain ⟨u3, u4⟩ := tok_n tk4
    exact (num_eq u3 u2 u4).1
  have hkr4 : cKd k4' (e4' - st4') = 2 ↔ rSo k4' (e4' - st4') = 2 := by rw [ck_2, rs_2]
  have deadm : ∀ (kd' : Int), (Ic3 43 2).toInt = kd' → kd' ≠ 0 → (Ic3 43 3).toInt = st4' → (∃ I' : Nat → Nat → Int32, xEv L xs (d' + 3) 159 0 [.ref 86, .int 0, .int 500] [] (124, Ir4, Jr4, Rr) (some (.int 0)) (124, I', Jr4, Rr) ∧ (I' 86 9).toInt = st4' ∧ (I' 86 8).toInt = kd' ∧ alM Ir4 I' Jr4 Jr4) → ∃ (Ic' : Nat → Nat → Int32) (Jc' : Nat → Nat → Int64) (Ir' : Nat → Nat → Int32) (Jr' : Nat → Nat → Int64) (w : Int32), xEv L xs (d + 6) 26 0 [.ref 43, xmk, xmk, xmk, xmk] [] (124, Ic, Jc, R) none (124, Ic', Jc', R) ∧ xEv L xs (d' + 4) 156 0 [.ref 86, xmk] [] (124, Ir, Jr, Rr) (some (.int w)) (124, Ir', Jr', Rr) ∧ CL_23 b n e0 Ic Ir Ic' Jc' Ir' Jr' w := by
    rintro kd' u1 u2 u3 ⟨I', u4, u5, u6, u0⟩
    exact ⟨_, _, _, _, 0, cC (rpD60_23 hG (by omega)), mp_5 hGr hb7 d1 es1 dz (by omega) en14.1 en14.2 d2 d3 (by omega) (by omega) (by omega) (by omega) dk d4 u4, ⟨alc al123, (by intro c q t1 t2 t3 t4 t5; repeat (first | rw [uI_n _ _ (by omega)] | rw [ar7.1 c q (by omega)] | rw [ar6.1 c q (by omega)] | rw [ar5.1 c q (by omega)] | rw [ar4.1 c q (by omega)] | rw [ar3.1 c q (by omega)] | rw [ar2.1 c q (by omega)] | rw [ar1.1 c q (by omega)] | rw [w0.1 c q (by omega)] | rw [u0.1 c q (by omega)] | rw [v2.1 c q (by omega)] | rw [z2.1 c q (by omega)]))⟩, Or.inl ⟨rfl, by omega, by omega, by omega⟩⟩
  rcases hh4 with ⟨v1, v2, v3, v4, v5, v6, st5, k5, e5, tk5, ct5⟩ | ⟨v1, v2, v3, v4⟩ | ⟨v1, v2, v3⟩
  rotate_left
  · refine deadm 2 v3 (by decide) v4 ?_
    rcases dm with ⟨w1, w2, w3, -⟩ | ⟨I', w1, w0, w2, ⟨w3, w4⟩ | ⟨w3, w4, w5⟩⟩
    · rw [hval4 v1] at v2
      exact absurd ⟨w2, w3⟩ v2
    · exact absurd (hkr4.mp v1) w3
    · exact ⟨I', w1, w2, w5, w0⟩
  · refine deadm 1 v2 (by decide) v3 ?_
    rcases dm with ⟨w1, w2, w3, -⟩ | ⟨I', w1, w0, w2, ⟨w3, w4⟩ | ⟨w3, w4, w5⟩⟩
    · exact absurd (hkr4.mpr w1) v1
    · exact ⟨I', w1, w2, w4, w0⟩
    · exact absurd (hkr4.mpr w3) v1
  rcases dm with ⟨z1, z2, z3, st5', k5', e5', Ir5, Jr5, d5, tk5', rt5, z4, z5, z6, ar5⟩ | ⟨I', z1, -, z2, ⟨z3, z4⟩ | ⟨z3, z4, z5⟩⟩
  rotate_left
  · exact absurd (hkr4.mp v1) z3
  · exact absurd ⟨by rw [← hval4 v1]; exact v2, by rw [← hval4 v1]; exact v3⟩ z4
  obtain ⟨g1, g2, g3⟩ := isTok_u tk5' tk5
  subst g1
  subst g2
  subst g3
  have ex : x = nF b st4' (e4' - st4') := by rw [v4]; exact l2i_n (hval4 v1)
  have hF : (uI (uI Ir5 91 (7 + Ir 88 3).toNatClampNeg (Ir5 86 11)) 88 3 (Ir5 88 3 + 1)) = (uI (uI Ir5 91 (7 + np) (Ir5 86 11)) 88 3 (Ir5 88 3 + 1)) := by rw [ek7]
  rw [ek7] at ar4
  have hrow5 : ∀ c, c ≠ 86 → Ir5 c = uI (uI Ir3 90 (7 + np) (Ir3 86 11)) 91 (7 + np) 0 c := fun c hc => funext fun q => by rw [ar5.1 c q (by omega), ar4.1 c q (by omega)]
  have eNU : Ir5 88 3 = Ir 88 3 := by rw [hrow5 88 (by decide)]; show Ir3 88 3 = _; rw [hrow 88 (by decide)]
  have p5 : e0 ≤ e5' := by
    have u := tok_prog tk4 (by intro z; have := (ck_2.mp v1).1; omega)
    have u2 := tk5.1.1
    have u3 : st5' ≤ e5' := rt5.2.2.2.2.2.2.2.2.2
    omega
  refine ⟨_, _, _, _, 1, cC (apr x v5), mp_6 hGr hb7 d1 es1 dz (by omega) en14.1 en14.2 d2 d3 (by omega) (by omega) (by omega) (by omega) dk d4 d5 (by omega) (by omega), ?_⟩
  rw [hF]
  have e31 : (Ir5 88 3 + 1).toInt = ((np + 1 : Nat) : Int) := by rw [eNU]; have := i_add1 (x := Ir 88 3) (by omega); omega
  refine fin Ic3 Jc3 _ Jr5 st5' k5' e5' x al123 v5 (by rw [v6, h6, f2]) ct5 p5 (rTok_c rt5 (fun _ => rfl) (fun _ => rfl) rfl) (by show Ir5 86 8 = _; rw [z5, ar4.1 86 8 (by omega)]; show Ir3 86 8 = _; rw [w5, ar2.1 86 8 (by omega), r8]) (by show Ir5 86 9 = _; rw [z6, ar4.1 86 9 (by omega)]; show Ir3 86 9 = _; rw [w6, ar2.1 86 9 (by omega), r9]) e31 (by show Ir5 88 4 = _; rw [hrow5 88 (by decide)]; show Ir3 88 4 = _; rw [hrow 88 (by decide)]) (by show Ir5 88 5 = _; rw [hrow5 88 (by decide)]; show Ir3 88 5 = _; rw [hrow 88 (by decide)]) ?_ ?_ ?_ ?_ (by intro c q t1 t2 t3 t4 t5; repeat (first | rw [uI_n _ _ (by omega)] | rw [ar7.1 c q (by omega)] | rw [ar6.1 c q (by omega)] | rw [ar5.1 c q (by omega)] | rw [ar4.1 c q (by omega)] | rw [ar3.1 c q (by omega)] | rw [ar2.1 c q (by omega)] | rw [ar1.1 c q (by omega)] | rw [w0.1 c q (by omega)] | rw [u0.1 c q (by omega)] | rw [v2.1 c q (by omega)] | rw [z2.1 c q (by omega)]))
  · intro i hi
    show Ir5 90 (7 + i) = _
    rw [hrow5 90 (by decide)]
    show uI Ir3 90 (7 + np) (Ir3 86 11) 90 (7 + i) = _
    by_cases g : i = np
    · rw [if_pos g, g, uI_s, w4, ey]
    · rw [if_neg g, uI_n _ _ (by omega), hrow 90 (by decide)]
  · intro i hi
    show uI Ir5 91 (7 + np) (Ir5 86 11) 91 (7 + i) = _
    by_cases g : i = np
    · rw [if_pos g, g, uI_s, z4, ex]
    · rw [if_neg g, uI_n _ _ (by omega), hrow5 91 (by decide), uI_n _ _ (by omega), uI_n _ _ (by omega), hrow 91 (by decide)]
  · intro c hc1 hc2
    have hz : uI (uI Ir5 91 (7 + np) (Ir5 86 11)) 88 3 (Ir5 88 3 + 1) c = Ir5 c := by
      funext q
      rw [uI_n _ _ (by omega), uI_n _ _ (by omega)]
    rw [hz, hrow5 c (by omega), ← hrow c (by omega)]
    funext q
    rw [uI_n _ _ (by omega), uI_n _ _ (by omega)]
  · intro i hi
    rw [ar5.2 89 i (by omega), ar4.2 89 i (by omega)]
    exact hnm i hi
end PF23
