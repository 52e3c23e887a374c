section RD3
variable {L : Nat} {xs : Nat → Int32} {d d' : Nat} {R Rr : Nat → Nat → Nat} {b : Nat → Int32} {n e0 : Nat} {Ic Ir : Nat → Nat → Int32} {Jc Jr : Nat → Nat → Int64} {i m : Int32}
/-- a clause is closed -/
theorem close_3 (hG : aGd R) (hR : R 43 1 = 4) (hGr : aGd Rr) (h4 : 4 ≤ d' + 1) (hn9 : n ≤ 900) (hs : (Ir 86 3).toInt ≠ 4) {Ic1 : Nat → Nat → Int32} {Jc1 : Nat → Nat → Int64} {Ir1 : Nat → Nat → Int32} {Jr1 : Nat → Nat → Int64} {w : Int32} (hC : CL_3 b n e0 Ic Ir Ic1 Jc1 Ir1 Jr1 w) (hx : ∀ Ic2 Jc2, xEv L xs (d + 6) 42 0 [.ref 43] [] (124, Ic1, Jc1, R) none (124, Ic2, Jc2, R) → ∀ vv h', xEv L xs (d + 7) 18 28 [.ref 43, .ref 3, .int (i + 1)] [] (124, Ic2, Jc2, R) vv h' → xEv L xs (d + 7) 18 28 [.ref 43, .ref 3, .int i] [] (124, Ic, Jc, R) vv h') (hq : xEv L xs (d' + 5) 155 0 [.ref 86, xmk] [] (124, Ir, Jr, Rr) (some (.int w)) (124, Ir1, Jr1, Rr)) : ∃ (Ic' : Nat → Nat → Int32) (Jc' : Nat → Nat → Int64), (∀ vv h', xEv L xs (d + 7) 18 28 [.ref 43, .ref 3, .int (i + 1)] [] (124, Ic', Jc', R) vv h' → xEv L xs (d + 7) 18 28 [.ref 43, .ref 3, .int i] [] (124, Ic, Jc, R) vv h') ∧ (Ic' 17 5 = Ic 17 5 ∧ FRc_3 Ic Ic') ∧ ((∃ (Ir' : Nat → Nat → Int32) (Jr' : Nat → Nat → Int64), xEv L xs (d' + 6) 148 20 [.ref 86, .int m] [] (124, Ir, Jr, Rr) (some (.int (-1))) (124, Ir', Jr', Rr) ∧ (Ic' 43 2).toInt ≠ 0 ∧ (Ic' 43 2).toInt = (Ir' 86 8).toInt ∧ (Ic' 43 3).toInt = (Ir' 86 9).toInt ∧ FRr Ir Ir') ∨ (∃ (Ir' : Nat → Nat → Int32) (Jr' : Nat → Nat → Int64) (st k e np nm nn pos : Nat), (∀ vv h', xEv L xs (d' + 6) 148 20 [.ref 86, .int (m + 1)] [] (124, Ir', Jr', Rr) vv h' → xEv L xs (d' + 6) 148 20 [.ref 86, .int m] [] (124, Ir, Jr, Rr) vv h') ∧ (Ic' 43 2).toInt = 0 ∧ Ic' 43 3 = Ic 43 3 ∧ Ir' 86 8 = Ir 86 8 ∧ Ir' 86 9 = Ir 86 9 ∧ Ic' 3 17 = Ic 3 17 + 1 ∧ e0 ≤ pos ∧ isTok b pos st k e ∧ cTok b n Ic' Jc' st k e ∧ rTok b n Ir' Jr' st k e ∧ PR_3 b np nm nn Ic' Jc' Ir' Jr' ∧ FRr Ir Ir')) := by
  obtain ⟨⟨⟨a1, a2, a4⟩, a3⟩, ⟨rfl, b1, b2, b3⟩ | ⟨rfl, b1, b2, b3, b4, st, k, e, np, nm, nn, b5, ct, rt, hP⟩⟩ := hC
  · have cc : xEv L xs (d + 6) 42 0 [.ref 43] [] (124, Ic1, Jc1, R) none (124, Ic1, Jc1, R) := by
      by_cases g : (Ic1 1 3).toInt = 3
      · exact cc_d2_3 hG g b1
      · exact cc_d1_3 hG g (fl_d hG b1) b1
    exact ⟨Ic1, Jc1, hx _ _ cc, ⟨a2, a4⟩, Or.inl ⟨Ir1, Jr1, vl_0 hGr hs hq, b1, b2, b3, a3⟩⟩
  · by_cases g : k = 3
    · obtain ⟨st2, k2, e2, Ic2, Jc2, c2, tk2, o1, o2, o3, o4, o5, o6, o7, al2⟩ := ad_run (L := L) (xs := xs) (d := d + 4) (R := R) hG hn9 (I := uI Ic1 3 17 (Ic1 3 17 + 1)) (J := Jc1) ct.1 ct.2.1 ct.2.2.2.2.2.2.1
      have hbA : bX (uI Ic1 3 17 (Ic1 3 17 + 1)) n = b := by rw [← ct.2.2.2.2.2.1]; rfl
      rw [hbA] at tk2 o7
      obtain ⟨st2', k2', e2', Ir2, Jr2, d2, tk2', rt2, ar2⟩ := sk_run (L := L) (xs := xs) (d := d' + 3) (R := Rr) (b := b) (n := n) (p := e) (I := Ir1) (J := Jr1) hGr (by omega) hn9 rt.1 rt.2.1 rt.2.2.2.2.2.2.2.2.1 rt.2.2.2.2.2.2.2.1
      obtain ⟨t1, t2, t3⟩ := isTok_u tk2' tk2
      subst t1
      subst t2
      subst t3
      have ek : (Ic1 1 3).toInt = 3 := by rw [ct.2.2.1, ck_3.mpr g]; rfl
      have es : (Ir1 86 3).toInt = 3 := by rw [rt.2.2.1, rs_3.mpr g]; rfl
      have hPu : PR_3 b np nm nn (uI Ic1 3 17 (Ic1 3 17 + 1)) Jc1 Ir1 Jr1 := hP
      refine ⟨Ic2, Jc2, hx _ _ (cc_2_3 hG ek b1 hR c2), ⟨?_, frc_t_3 a4 (fun c q t1 t2 t3 => by rw [al2.1 c q (by omega), uI_n _ _ (by omega)])⟩, Or.inr ⟨Ir2, Jr2, st2', k2', e2', np, nm, nn, e, fun vv h' hk => vl_2 hGr hs hq es d2 hk, ?_, ?_, ?_, ?_, ?_, b5, tk2, ⟨?_, o4, o5, o6, o7, by rw [alT_b al2]; exact hbA, o2, o3⟩, rt2, PR_m_3 (PR_x_3 hPu (alX_T al2)) (alM_S ar2), fr_t a3 (fr_S ar2)⟩⟩
      · rw [al2.1 17 5 (by omega)]; exact a2
      · rw [al2.1 43 2 (by omega)]; exact b1
      · rw [al2.1 43 3 (by omega)]; exact b2
      · rw [ar2.1 86 8 (by omega)]; exact b3
      · rw [ar2.1 86 9 (by omega)]; exact b4
      · rw [al2.1 3 17 (by omega), uI_s, a1]
      · rw [al2.1 1 1 (by omega)]; exact ct.1
    · have ek : (Ic1 1 3).toInt ≠ 3 := by rw [ct.2.2.1]; intro z; exact g ((ck_3 (m := e - st)).mp (by omega))
      have es : (Ir1 86 3).toInt ≠ 3 := by rw [rt.2.2.1]; intro z; exact g ((rs_3 (m := e - st)).mp (by omega))
      refine ⟨_, _, hx _ _ (cc_1_3 hG ek (fl_a hG b1)), ⟨a2, frc_t_3 a4 (fun c q t1 t2 t3 => by rw [uI_n _ _ (by omega), uI_n _ _ (by omega)])⟩, Or.inl ⟨_, _, vl_1 hGr hs hq es (fa_run hGr), by show ((1 : Int32)).toInt ≠ 0; decide, rfl, ?_, fr_t a3 (by intro c q t1 t2 t3 t4 t5; rw [uI_n _ _ (by omega), uI_n _ _ (by omega)])⟩⟩
      show (Ic1 1 4).toInt = (Ir1 86 5).toInt
      rw [ct.2.2.2.1, rt.2.2.2.1]
/-- one round -/
theorem round_3 (hG : aGd R) (hR : R 43 1 = 4) (hGr : aGd Rr) (h4 : 4 ≤ d' + 1) (hn9 : n ≤ 900) {p0 st0 k0 np nm nn : Nat} (hi : i.toInt < 900) (h0 : (Ic 43 2).toInt = 0) (tk : isTok b p0 st0 k0 e0) (hk0 : k0 ≠ 0) (hc : cTok b n Ic Jc st0 k0 e0) (hr : rTok b n Ir Jr st0 k0 e0) (hP : PR_3 b np nm nn Ic Jc Ir Jr) : ∃ (Ic' : Nat → Nat → Int32) (Jc' : Nat → Nat → Int64), (∀ vv h', xEv L xs (d + 7) 18 28 [.ref 43, .ref 3, .int (i + 1)] [] (124, Ic', Jc', R) vv h' → xEv L xs (d + 7) 18 28 [.ref 43, .ref 3, .int i] [] (124, Ic, Jc, R) vv h') ∧ (Ic' 17 5 = Ic 17 5 ∧ FRc_3 Ic Ic') ∧ ((∃ (Ir' : Nat → Nat → Int32) (Jr' : Nat → Nat → Int64), xEv L xs (d' + 6) 148 20 [.ref 86, .int m] [] (124, Ir, Jr, Rr) (some (.int (-1))) (124, Ir', Jr', Rr) ∧ (Ic' 43 2).toInt ≠ 0 ∧ (Ic' 43 2).toInt = (Ir' 86 8).toInt ∧ (Ic' 43 3).toInt = (Ir' 86 9).toInt ∧ FRr Ir Ir') ∨ (∃ (Ir' : Nat → Nat → Int32) (Jr' : Nat → Nat → Int64) (st k e np nm nn pos : Nat), (∀ vv h', xEv L xs (d' + 6) 148 20 [.ref 86, .int (m + 1)] [] (124, Ir', Jr', Rr) vv h' → xEv L xs (d' + 6) 148 20 [.ref 86, .int m] [] (124, Ir, Jr, Rr) vv h') ∧ (Ic' 43 2).toInt = 0 ∧ Ic' 43 3 = Ic 43 3 ∧ Ir' 86 8 = Ir 86 8 ∧ Ir' 86 9 = Ir 86 9 ∧ Ic' 3 17 = Ic 3 17 + 1 ∧ e0 ≤ pos ∧ isTok b pos st k e ∧ cTok b n Ic' Jc' st k e ∧ rTok b n Ir' Jr' st k e ∧ PR_3 b np nm nn Ic' Jc' Ir' Jr' ∧ FRr Ir Ir')) := by
  have hs : (Ir 86 3).toInt ≠ 4 := by rw [hr.2.2.1]; intro z; exact hk0 ((rs_4 (m := e0 - st0)).mp (by omega))
  have hkc : (Ic 1 3).toInt ≠ 0 := by rw [hc.2.2.1]; intro z; exact hk0 ((ck_0 (m := e0 - st0)).mp (by omega))
  have hrs : rSo k0 (e0 - st0) = 1 ↔ cKd k0 (e0 - st0) = 1 := by rw [ck_1, rs_1]
  have w0 := iwk_0 (L := L) (xs := xs) (d := d + 5) (R := R) hG (by omega) tk hc
  have w1 := iwk_1 (L := L) (xs := xs) (d := d + 5) (R := R) hG (by omega) tk hc
  have w2 := iwk_2 (L := L) (xs := xs) (d := d + 5) (R := R) hG (by omega) tk hc
  have w3 := iwk_3 (L := L) (xs := xs) (d := d + 5) (R := R) hG (by omega) tk hc
  -- no clause begins so
  have none : ¬ (cKd k0 (e0 - st0) = 1 ∧ isKw b st0 (e0 - st0) 0) → ¬ (cKd k0 (e0 - st0) = 1 ∧ isKw b st0 (e0 - st0) 1) → ¬ (cKd k0 (e0 - st0) = 1 ∧ isKw b st0 (e0 - st0) 2) → ¬ (cKd k0 (e0 - st0) = 1 ∧ isKw b st0 (e0 - st0) 3) → xEv L xs (d' + 5) 155 0 [.ref 86, xmk] [] (124, Ir, Jr, Rr) (some (.int 0)) (124, uI (uI Ir 86 8 1) 86 9 (Ir 86 5), Jr, Rr) → ∃ (Ic' : Nat → Nat → Int32) (Jc' : Nat → Nat → Int64), (∀ vv h', xEv L xs (d + 7) 18 28 [.ref 43, .ref 3, .int (i + 1)] [] (124, Ic', Jc', R) vv h' → xEv L xs (d + 7) 18 28 [.ref 43, .ref 3, .int i] [] (124, Ic, Jc, R) vv h') ∧ (Ic' 17 5 = Ic 17 5 ∧ FRc_3 Ic Ic') ∧ ((∃ (Ir' : Nat → Nat → Int32) (Jr' : Nat → Nat → Int64), xEv L xs (d' + 6) 148 20 [.ref 86, .int m] [] (124, Ir, Jr, Rr) (some (.int (-1))) (124, Ir', Jr', Rr) ∧ (Ic' 43 2).toInt ≠ 0 ∧ (Ic' 43 2).toInt = (Ir' 86 8).toInt ∧ (Ic' 43 3).toInt = (Ir' 86 9).toInt ∧ FRr Ir Ir') ∨ (∃ (Ir' : Nat → Nat → Int32) (Jr' : Nat → Nat → Int64) (st k e np nm nn pos : Nat), (∀ vv h', xEv L xs (d' + 6) 148 20 [.ref 86, .int (m + 1)] [] (124, Ir', Jr', Rr) vv h' → xEv L xs (d' + 6) 148 20 [.ref 86, .int m] [] (124, Ir, Jr, Rr) vv h') ∧ (Ic' 43 2).toInt = 0 ∧ Ic' 43 3 = Ic 43 3 ∧ Ir' 86 8 = Ir 86 8 ∧ Ir' 86 9 = Ir 86 9 ∧ Ic' 3 17 = Ic 3 17 + 1 ∧ e0 ≤ pos ∧ isTok b pos st k e ∧ cTok b n Ic' Jc' st k e ∧ rTok b n Ir' Jr' st k e ∧ PR_3 b np nm nn Ic' Jc' Ir' Jr' ∧ FRr Ir Ir')) := by
    intro n0 n1 n2 n3 hq
    have c0 := (w0.resolve_left (fun z => n0 z.1)).2
    have c1 := (w1.resolve_left (fun z => n1 z.1)).2
    have c2 := (w2.resolve_left (fun z => n2 z.1)).2
    have c3 := (w3.resolve_left (fun z => n3 z.1)).2
    refine close_3 (e0 := e0) (Ic1 := uI (uI Ic 43 2 1) 43 3 (Ic 1 4)) (Jc1 := Jc) hG hR hGr h4 hn9 hs ⟨⟨⟨rfl, rfl, fun c q t1 t2 t3 => by rw [uI_n _ _ (by omega), uI_n _ _ (by omega)]⟩, by intro c q t1 t2 t3 t4 t5; rw [uI_n _ _ (by omega), uI_n _ _ (by omega)]⟩, Or.inl ⟨rfl, by show ((1 : Int32)).toInt ≠ 0; decide, rfl, ?_⟩⟩ (fun Ic2 Jc2 cc vv h' hk => rl_4_3 hG hi h0 hkc c0 c1 c2 c3 (fl_a hG h0) cc hk) hq
    show (Ic 1 4).toInt = (Ir 86 5).toInt
    rw [hc.2.2.2.1, hr.2.2.2.1]
  by_cases hw : rSo k0 (e0 - st0) = 1
  rotate_left
  · have nw : ∀ j, ¬ (cKd k0 (e0 - st0) = 1 ∧ isKw b st0 (e0 - st0) j) := fun j z => hw (hrs.mpr z.1)
    exact none (nw 0) (nw 1) (nw 2) (nw 3) (rc_5 hGr (by rw [hr.2.2.1]; omega) (fa_run hGr))
  have es : (Ir 86 3).toInt = 1 := by rw [hr.2.2.1, hw]; rfl
  rcases hr.2.2.2.2.2.2.1 hw with ⟨j, hj, ej, hkw⟩ | ⟨ej, hno⟩
  rotate_left
  · exact none (fun z => hno 0 (by decide) z.2) (fun z => hno 1 (by decide) z.2) (fun z => hno 2 (by decide) z.2) (fun z => hno 3 (by decide) z.2) (rc_4 hGr es (by omega) (by omega) (by omega) (by omega) (fa_run hGr))
  have ne : ∀ i, i < 6 → i ≠ j → ¬ (cKd k0 (e0 - st0) = 1 ∧ isKw b st0 (e0 - st0) i) := fun i hi hij z => hij (isKw_u hi hj z.2 hkw)
  have hck := hrs.mp hw
  by_cases hj4 : 4 ≤ j
  · exact none (ne 0 (by decide) (by omega)) (ne 1 (by decide) (by omega)) (ne 2 (by decide) (by omega)) (ne 3 (by decide) (by omega)) (rc_4 hGr es (by omega) (by omega) (by omega) (by omega) (fa_run hGr))
  have z01 : ∀ {Ic' : Nat → Nat → Int32} {Jc' : Nat → Nat → Int64} {Ir' : Nat → Nat → Int32} {Jr' : Nat → Nat → Int64} {w : Int32}, CL_3 b n e0 Ic Ir Ic' Jc' Ir' Jr' w → w = 0 ∨ w = 1 := fun h => h.2.imp (fun z => z.1) (fun z => z.1)
  have hj' : j = 0 ∨ j = 1 ∨ j = 2 ∨ j = 3 := by omega
  rcases hj' with rfl | rfl | rfl | rfl
  · obtain ⟨Ic1, Jc1, Ir1, Jr1, w, x1, x2, x3⟩ := person_3 (L := L) (xs := xs) (d := d) (d' := d') hG hR hGr h4 hn9 h0 hc hr hP
    have c0 := (w0.resolve_right (fun z => z.1 ⟨hck, hkw⟩)).2
    exact close_3 hG hR hGr h4 hn9 hs x3 (fun Ic2 Jc2 cc vv h' hk => rl_0_3 hG hi h0 hkc c0 x1 cc hk) (rc_0 hGr es (by omega) x2 (z01 x3))
  · obtain ⟨Ic1, Jc1, Ir1, Jr1, w, x1, x2, x3⟩ := meeting_3 (L := L) (xs := xs) (d := d) (d' := d') hG hR hGr h4 hn9 h0 hc hr hP
    have c0 := (w0.resolve_left (fun z => ne 0 (by decide) (by decide) z.1)).2
    have c1 := (w1.resolve_right (fun z => z.1 ⟨hck, hkw⟩)).2
    exact close_3 hG hR hGr h4 hn9 hs x3 (fun Ic2 Jc2 cc vv h' hk => rl_1_3 hG hi h0 hkc c0 c1 x1 cc hk) (rc_1 hGr es (by omega) (by omega) x2 (z01 x3))
  · obtain ⟨Ic1, Jc1, Ir1, Jr1, w, x1, x2, x3⟩ := news_3 (L := L) (xs := xs) (d := d) (d' := d') hG hR hGr h4 hn9 h0 hc hr hP
    have c0 := (w0.resolve_left (fun z => ne 0 (by decide) (by decide) z.1)).2
    have c1 := (w1.resolve_left (fun z => ne 1 (by decide) (by decide) z.1)).2
    have c2 := (w2.resolve_right (fun z => z.1 ⟨hck, hkw⟩)).2
    exact close_3 hG hR hGr h4 hn9 hs x3 (fun Ic2 Jc2 cc vv h' hk => rl_2_3 hG hi h0 hkc c0 c1 c2 x1 cc hk) (rc_2 hGr es (by omega) (by omega) (by omega) x2 (z01 x3))
  · obtain ⟨Ic1, Jc1, Ir1, Jr1, w, x1, x2, x3⟩ := bar_3 (L := L) (xs := xs) (d := d) (d' := d') hG hR hGr h4 hn9 h0 hc hr hP
    have c0 := (w0.resolve_left (fun z => ne 0 (by decide) (by decide) z.1)).2
    have c1 := (w1.resolve_left (fun z => ne 1 (by decide) (by decide) z.1)).2
    have c2 := (w2.resolve_left (fun z => ne 2 (by decide) (by decide) z.1)).2
    have c3 := (w3.resolve_right (fun z => z.1 ⟨hck, hkw⟩)).2
    exact close_3 hG hR hGr h4 hn9 hs x3 (fun Ic2 Jc2 cc vv h' hk => rl_3_3 hG hi h0 hkc c0 c1 c2 c3 x1 cc hk) (rc_3 hGr es (by omega) (by omega) (by omega) (by omega) x2 (z01 x3))
end RD3
section RD23
variable {L : Nat} {xs : Nat → Int32} {d d' : Nat} {R Rr : Nat → Nat → Nat} {b : Nat → Int32} {n e0 : Nat} {Ic Ir : Nat → Nat → Int32} {Jc Jr : Nat → Nat → Int64} {i m : Int32}
/-- a clause is closed -/
theorem close_23 (hG : aGd R) (hR : R 43 1 = 24) (hGr : aGd Rr) (h4 : 4 ≤ d' + 1) (hn9 : n ≤ 900) (hs : (Ir 86 3).toInt ≠ 4) {Ic1 : Nat → Nat → Int32} {Jc1 : Nat → Nat → Int64} {Ir1 : Nat → Nat → Int32} {Jr1 : Nat → Nat → Int64} {w : Int32} (hC : CL_23 b n e0 Ic Ir Ic1 Jc1 Ir1 Jr1 w) (hx : ∀ Ic2 Jc2, xEv L xs (d + 6) 42 0 [.ref 43] [] (124, Ic1, Jc1, R) none (124, Ic2, Jc2, R) → ∀ vv h', xEv L xs (d + 7) 18 28 [.ref 43, .ref 23, .int (i + 1)] [] (124, Ic2, Jc2, R) vv h' → xEv L xs (d + 7) 18 28 [.ref 43, .ref 23, .int i] [] (124, Ic, Jc, R) vv h') (hq : xEv L xs (d' + 5) 155 0 [.ref 86, xmk] [] (124, Ir, Jr, Rr) (some (.int w)) (124, Ir1, Jr1, Rr)) : ∃ (Ic' : Nat → Nat → Int32) (Jc' : Nat → Nat → Int64), (∀ vv h', xEv L xs (d + 7) 18 28 [.ref 43, .ref 23, .int (i + 1)] [] (124, Ic', Jc', R) vv h' → xEv L xs (d + 7) 18 28 [.ref 43, .ref 23, .int i] [] (124, Ic, Jc, R) vv h') ∧ (Ic' 37 5 = Ic 37 5 ∧ FRc_23 Ic Ic') ∧ ((∃ (Ir' : Nat → Nat → Int32) (Jr' : Nat → Nat → Int64), xEv L xs (d' + 6) 148 20 [.ref 86, .int m] [] (124, Ir, Jr, Rr) (some (.int (-1))) (124, Ir', Jr', Rr) ∧ (Ic' 43 2).toInt ≠ 0 ∧ (Ic' 43 2).toInt = (Ir' 86 8).toInt ∧ (Ic' 43 3).toInt = (Ir' 86 9).toInt ∧ FRr Ir Ir') ∨ (∃ (Ir' : Nat → Nat → Int32) (Jr' : Nat → Nat → Int64) (st k e np nm nn pos : Nat), (∀ vv h', xEv L xs (d' + 6) 148 20 [.ref 86, .int (m + 1)] [] (124, Ir', Jr', Rr) vv h' → xEv L xs (d' + 6) 148 20 [.ref 86, .int m] [] (124, Ir, Jr, Rr) vv h') ∧ (Ic' 43 2).toInt = 0 ∧ Ic' 43 3 = Ic 43 3 ∧ Ir' 86 8 = Ir 86 8 ∧ Ir' 86 9 = Ir 86 9 ∧ Ic' 23 17 = Ic 23 17 + 1 ∧ e0 ≤ pos ∧ isTok b pos st k e ∧ cTok b n Ic' Jc' st k e ∧ rTok b n Ir' Jr' st k e ∧ PR_23 b np nm nn Ic' Jc' Ir' Jr' ∧ FRr Ir Ir')) := by
  obtain ⟨⟨⟨a1, a2, a4⟩, a3⟩, ⟨rfl, b1, b2, b3⟩ | ⟨rfl, b1, b2, b3, b4, st, k, e, np, nm, nn, b5, ct, rt, hP⟩⟩ := hC
  · have cc : xEv L xs (d + 6) 42 0 [.ref 43] [] (124, Ic1, Jc1, R) none (124, Ic1, Jc1, R) := by
      by_cases g : (Ic1 1 3).toInt = 3
      · exact cc_d2_23 hG g b1
      · exact cc_d1_23 hG g (fl_d hG b1) b1
    exact ⟨Ic1, Jc1, hx _ _ cc, ⟨a2, a4⟩, Or.inl ⟨Ir1, Jr1, vl_0 hGr hs hq, b1, b2, b3, a3⟩⟩
  · by_cases g : k = 3
    · obtain ⟨st2, k2, e2, Ic2, Jc2, c2, tk2, o1, o2, o3, o4, o5, o6, o7, al2⟩ := ad_run (L := L) (xs := xs) (d := d + 4) (R := R) hG hn9 (I := uI Ic1 23 17 (Ic1 23 17 + 1)) (J := Jc1) ct.1 ct.2.1 ct.2.2.2.2.2.2.1
      have hbA : bX (uI Ic1 23 17 (Ic1 23 17 + 1)) n = b := by rw [← ct.2.2.2.2.2.1]; rfl
      rw [hbA] at tk2 o7
      obtain ⟨st2', k2', e2', Ir2, Jr2, d2, tk2', rt2, ar2⟩ := sk_run (L := L) (xs := xs) (d := d' + 3) (R := Rr) (b := b) (n := n) (p := e) (I := Ir1) (J := Jr1) hGr (by omega) hn9 rt.1 rt.2.1 rt.2.2.2.2.2.2.2.2.1 rt.2.2.2.2.2.2.2.1
      obtain ⟨t1, t2, t3⟩ := isTok_u tk2' tk2
      subst t1
      subst t2
      subst t3
      have ek : (Ic1 1 3).toInt = 3 := by rw [ct.2.2.1, ck_3.mpr g]; rfl
      have es : (Ir1 86 3).toInt = 3 := by rw [rt.2.2.1, rs_3.mpr g]; rfl
      have hPu : PR_23 b np nm nn (uI Ic1 23 17 (Ic1 23 17 + 1)) Jc1 Ir1 Jr1 := hP
      refine ⟨Ic2, Jc2, hx _ _ (cc_2_23 hG ek b1 hR c2), ⟨?_, frc_t_23 a4 (fun c q t1 t2 t3 => by rw [al2.1 c q (by omega), uI_n _ _ (by omega)])⟩, Or.inr ⟨Ir2, Jr2, st2', k2', e2', np, nm, nn, e, fun vv h' hk => vl_2 hGr hs hq es d2 hk, ?_, ?_, ?_, ?_, ?_, b5, tk2, ⟨?_, o4, o5, o6, o7, by rw [alT_b al2]; exact hbA, o2, o3⟩, rt2, PR_m_23 (PR_x_23 hPu (alX_T al2)) (alM_S ar2), fr_t a3 (fr_S ar2)⟩⟩
      · rw [al2.1 37 5 (by omega)]; exact a2
      · rw [al2.1 43 2 (by omega)]; exact b1
      · rw [al2.1 43 3 (by omega)]; exact b2
      · rw [ar2.1 86 8 (by omega)]; exact b3
      · rw [ar2.1 86 9 (by omega)]; exact b4
      · rw [al2.1 23 17 (by omega), uI_s, a1]
      · rw [al2.1 1 1 (by omega)]; exact ct.1
    · have ek : (Ic1 1 3).toInt ≠ 3 := by rw [ct.2.2.1]; intro z; exact g ((ck_3 (m := e - st)).mp (by omega))
      have es : (Ir1 86 3).toInt ≠ 3 := by rw [rt.2.2.1]; intro z; exact g ((rs_3 (m := e - st)).mp (by omega))
      refine ⟨_, _, hx _ _ (cc_1_23 hG ek (fl_a hG b1)), ⟨a2, frc_t_23 a4 (fun c q t1 t2 t3 => by rw [uI_n _ _ (by omega), uI_n _ _ (by omega)])⟩, Or.inl ⟨_, _, vl_1 hGr hs hq es (fa_run hGr), by show ((1 : Int32)).toInt ≠ 0; decide, rfl, ?_, fr_t a3 (by intro c q t1 t2 t3 t4 t5; rw [uI_n _ _ (by omega), uI_n _ _ (by omega)])⟩⟩
      show (Ic1 1 4).toInt = (Ir1 86 5).toInt
      rw [ct.2.2.2.1, rt.2.2.2.1]
/-- one round -/
theorem round_23 (hG : aGd R) (hR : R 43 1 = 24) (hGr : aGd Rr) (h4 : 4 ≤ d' + 1) (hn9 : n ≤ 900) {p0 st0 k0 np nm nn : Nat} (hi : i.toInt < 900) (h0 : (Ic 43 2).toInt = 0) (tk : isTok b p0 st0 k0 e0) (hk0 : k0 ≠ 0) (hc : cTok b n Ic Jc st0 k0 e0) (hr : rTok b n Ir Jr st0 k0 e0) (hP : PR_23 b np nm nn Ic Jc Ir Jr) : ∃ (Ic' : Nat → Nat → Int32) (Jc' : Nat → Nat → Int64), (∀ vv h', xEv L xs (d + 7) 18 28 [.ref 43, .ref 23, .int (i + 1)] [] (124, Ic', Jc', R) vv h' → xEv L xs (d + 7) 18 28 [.ref 43, .ref 23, .int i] [] (124, Ic, Jc, R) vv h') ∧ (Ic' 37 5 = Ic 37 5 ∧ FRc_23 Ic Ic') ∧ ((∃ (Ir' : Nat → Nat → Int32) (Jr' : Nat → Nat → Int64), xEv L xs (d' + 6) 148 20 [.ref 86, .int m] [] (124, Ir, Jr, Rr) (some (.int (-1))) (124, Ir', Jr', Rr) ∧ (Ic' 43 2).toInt ≠ 0 ∧ (Ic' 43 2).toInt = (Ir' 86 8).toInt ∧ (Ic' 43 3).toInt = (Ir' 86 9).toInt ∧ FRr Ir Ir') ∨ (∃ (Ir' : Nat → Nat → Int32) (Jr' : Nat → Nat → Int64) (st k e np nm nn pos : Nat), (∀ vv h', xEv L xs (d' + 6) 148 20 [.ref 86, .int (m + 1)] [] (124, Ir', Jr', Rr) vv h' → xEv L xs (d' + 6) 148 20 [.ref 86, .int m] [] (124, Ir, Jr, Rr) vv h') ∧ (Ic' 43 2).toInt = 0 ∧ Ic' 43 3 = Ic 43 3 ∧ Ir' 86 8 = Ir 86 8 ∧ Ir' 86 9 = Ir 86 9 ∧ Ic' 23 17 = Ic 23 17 + 1 ∧ e0 ≤ pos ∧ isTok b pos st k e ∧ cTok b n Ic' Jc' st k e ∧ rTok b n Ir' Jr' st k e ∧ PR_23 b np nm nn Ic' Jc' Ir' Jr' ∧ FRr Ir Ir')) := by
  have hs : (Ir 86 3).toInt ≠ 4 := by rw [hr.2.2.1]; intro z; exact hk0 ((rs_4 (m := e0 - st0)).mp (by omega))
  have hkc : (Ic 1 3).toInt ≠ 0 := by rw [hc.2.2.1]; intro z; exact hk0 ((ck_0 (m := e0 - st0)).mp (by omega))
  have hrs : rSo k0 (e0 - st0) = 1 ↔ cKd k0 (e0 - st0) = 1 := by rw [ck_1, rs_1]
  have w0 := iwk_0 (L := L) (xs := xs) (d := d + 5) (R := R) hG (by omega) tk hc
  have w1 := iwk_1 (L := L) (xs := xs) (d := d + 5) (R := R) hG (by omega) tk hc
  have w2 := iwk_2 (L := L) (xs := xs) (d := d + 5) (R := R) hG (by omega) tk hc
  have w3 := iwk_3 (L := L) (xs := xs) (d := d + 5) (R := R) hG (by omega) tk hc
  -- no clause begins so
  have none : ¬ (cKd k0 (e0 - st0) = 1 ∧ isKw b st0 (e0 - st0) 0) → ¬ (cKd k0 (e0 - st0) = 1 ∧ isKw b st0 (e0 - st0) 1) → ¬ (cKd k0 (e0 - st0) = 1 ∧ isKw b st0 (e0 - st0) 2) → ¬ (cKd k0 (e0 - st0) = 1 ∧ isKw b st0 (e0 - st0) 3) → xEv L xs (d' + 5) 155 0 [.ref 86, xmk] [] (124, Ir, Jr, Rr) (some (.int 0)) (124, uI (uI Ir 86 8 1) 86 9 (Ir 86 5), Jr, Rr) → ∃ (Ic' : Nat → Nat → Int32) (Jc' : Nat → Nat → Int64), (∀ vv h', xEv L xs (d + 7) 18 28 [.ref 43, .ref 23, .int (i + 1)] [] (124, Ic', Jc', R) vv h' → xEv L xs (d + 7) 18 28 [.ref 43, .ref 23, .int i] [] (124, Ic, Jc, R) vv h') ∧ (Ic' 37 5 = Ic 37 5 ∧ FRc_23 Ic Ic') ∧ ((∃ (Ir' : Nat → Nat → Int32) (Jr' : Nat → Nat → Int64), xEv L xs (d' + 6) 148 20 [.ref 86, .int m] [] (124, Ir, Jr, Rr) (some (.int (-1))) (124, Ir', Jr', Rr) ∧ (Ic' 43 2).toInt ≠ 0 ∧ (Ic' 43 2).toInt = (Ir' 86 8).toInt ∧ (Ic' 43 3).toInt = (Ir' 86 9).toInt ∧ FRr Ir Ir') ∨ (∃ (Ir' : Nat → Nat → Int32) (Jr' : Nat → Nat → Int64) (st k e np nm nn pos : Nat), (∀ vv h', xEv L xs (d' + 6) 148 20 [.ref 86, .int (m + 1)] [] (124, Ir', Jr', Rr) vv h' → xEv L xs (d' + 6) 148 20 [.ref 86, .int m] [] (124, Ir, Jr, Rr) vv h') ∧ (Ic' 43 2).toInt = 0 ∧ Ic' 43 3 = Ic 43 3 ∧ Ir' 86 8 = Ir 86 8 ∧ Ir' 86 9 = Ir 86 9 ∧ Ic' 23 17 = Ic 23 17 + 1 ∧ e0 ≤ pos ∧ isTok b pos st k e ∧ cTok b n Ic' Jc' st k e ∧ rTok b n Ir' Jr' st k e ∧ PR_23 b np nm nn Ic' Jc' Ir' Jr' ∧ FRr Ir Ir')) := by
    intro n0 n1 n2 n3 hq
    have c0 := (w0.resolve_left (fun z => n0 z.1)).2
    have c1 := (w1.resolve_left (fun z => n1 z.1)).2
    have c2 := (w2.resolve_left (fun z => n2 z.1)).2
    have c3 := (w3.resolve_left (fun z => n3 z.1)).2
    refine close_23 (e0 := e0) (Ic1 := uI (uI Ic 43 2 1) 43 3 (Ic 1 4)) (Jc1 := Jc) hG hR hGr h4 hn9 hs ⟨⟨⟨rfl, rfl, fun c q t1 t2 t3 => by rw [uI_n _ _ (by omega), uI_n _ _ (by omega)]⟩, by intro c q t1 t2 t3 t4 t5; rw [uI_n _ _ (by omega), uI_n _ _ (by omega)]⟩, Or.inl ⟨rfl, by show ((1 : Int32)).toInt ≠ 0; decide, rfl, ?_⟩⟩ (fun Ic2 Jc2 cc vv h' hk => rl_4_23 hG hi h0 hkc c0 c1 c2 c3 (fl_a hG h0) cc hk) hq
    show (Ic 1 4).toInt = (Ir 86 5).toInt
    rw [hc.2.2.2.1, hr.2.2.2.1]
  by_cases hw : rSo k0 (e0 - st0) = 1
  rotate_left
  · have nw : ∀ j, ¬ (cKd k0 (e0 - st0) = 1 ∧ isKw b st0 (e0 - st0) j) := fun j z => hw (hrs.mpr z.1)
    exact none (nw 0) (nw 1) (nw 2) (nw 3) (rc_5 hGr (by rw [hr.2.2.1]; omega) (fa_run hGr))
  have es : (Ir 86 3).toInt = 1 := by rw [hr.2.2.1, hw]; rfl
  rcases hr.2.2.2.2.2.2.1 hw with ⟨j, hj, ej, hkw⟩ | ⟨ej, hno⟩
  rotate_left
  · exact none (fun z => hno 0 (by decide) z.2) (fun z => hno 1 (by decide) z.2) (fun z => hno 2 (by decide) z.2) (fun z => hno 3 (by decide) z.2) (rc_4 hGr es (by omega) (by omega) (by omega) (by omega) (fa_run hGr))
  have ne : ∀ i, i < 6 → i ≠ j → ¬ (cKd k0 (e0 - st0) = 1 ∧ isKw b st0 (e0 - st0) i) := fun i hi hij z => hij (isKw_u hi hj z.2 hkw)
  have hck := hrs.mp hw
  by_cases hj4 : 4 ≤ j
  · exact none (ne 0 (by decide) (by omega)) (ne 1 (by decide) (by omega)) (ne 2 (by decide) (by omega)) (ne 3 (by decide) (by omega)) (rc_4 hGr es (by omega) (by omega) (by omega) (by omega) (fa_run hGr))
  have z01 : ∀ {Ic' : Nat → Nat → Int32} {Jc' : Nat → Nat → Int64} {Ir' : Nat → Nat → Int32} {Jr' : Nat → Nat → Int64} {w : Int32}, CL_23 b n e0 Ic Ir Ic' Jc' Ir' Jr' w → w = 0 ∨ w = 1 := fun h => h.2.imp (fun z => z.1) (fun z => z.1)
  have hj' : j = 0 ∨ j = 1 ∨ j = 2 ∨ j = 3 := by omega
  rcases hj' with rfl | rfl | rfl | rfl
  · obtain ⟨Ic1, Jc1, Ir1, Jr1, w, x1, x2, x3⟩ := person_23 (L := L) (xs := xs) (d := d) (d' := d') hG hR hGr h4 hn9 h0 hc hr hP
    have c0 := (w0.resolve_right (fun z => z.1 ⟨hck, hkw⟩)).2
    exact close_23 hG hR hGr h4 hn9 hs x3 (fun Ic2 Jc2 cc vv h' hk => rl_0_23 hG hi h0 hkc c0 x1 cc hk) (rc_0 hGr es (by omega) x2 (z01 x3))
  · obtain ⟨Ic1, Jc1, Ir1, Jr1, w, x1, x2, x3⟩ := meeting_23 (L := L) (xs := xs) (d := d) (d' := d') hG hR hGr h4 hn9 h0 hc hr hP
    have c0 := (w0.resolve_left (fun z => ne 0 (by decide) (by decide) z.1)).2
    have c1 := (w1.resolve_right (fun z => z.1 ⟨hck, hkw⟩)).2
    exact close_23 hG hR hGr h4 hn9 hs x3 (fun Ic2 Jc2 cc vv h' hk => rl_1_23 hG hi h0 hkc c0 c1 x1 cc hk) (rc_1 hGr es (by omega) (by omega) x2 (z01 x3))
  · obtain ⟨Ic1, Jc1, Ir1, Jr1, w, x1, x2, x3⟩ := news_23 (L := L) (xs := xs) (d := d) (d' := d') hG hR hGr h4 hn9 h0 hc hr hP
    have c0 := (w0.resolve_left (fun z => ne 0 (by decide) (by decide) z.1)).2
    have c1 := (w1.resolve_left (fun z => ne 1 (by decide) (by decide) z.1)).2
    have c2 := (w2.resolve_right (fun z => z.1 ⟨hck, hkw⟩)).2
    exact close_23 hG hR hGr h4 hn9 hs x3 (fun Ic2 Jc2 cc vv h' hk => rl_2_23 hG hi h0 hkc c0 c1 c2 x1 cc hk) (rc_2 hGr es (by omega) (by omega) (by omega) x2 (z01 x3))
  · obtain ⟨Ic1, Jc1, Ir1, Jr1, w, x1, x2, x3⟩ := bar_23 (L := L) (xs := xs) (d := d) (d' := d') hG hR hGr h4 hn9 h0 hc hr hP
    have c0 := (w0.resolve_left (fun z => ne 0 (by decide) (by decide) z.1)).2
    have c1 := (w1.resolve_left (fun z => ne 1 (by decide) (by decide) z.1)).2
    have c2 := (w2.resolve_left (fun z => ne 2 (by decide) (by decide) z.1)).2
    have c3 := (w3.resolve_right (fun z => z.1 ⟨hck, hkw⟩)).2
    exact close_23 hG hR hGr h4 hn9 hs x3 (fun Ic2 Jc2 cc vv h' hk => rl_3_23 hG hi h0 hkc c0 c1 c2 c3 x1 cc hk) (rc_3 hGr es (by omega) (by omega) (by omega) (by omega) x2 (z01 x3))
end RD23
