section NL
variable {L : Nat} {xs : Nat → Int32} {d d' : Nat} {R Rr : Nat → Nat → Nat} {b : Nat → Int32} {n p st k e : Nat} {Ic Ir : Nat → Nat → Int32} {Jc Jr : Nat → Nat → Int64}
/-- a number: the class at p, the reference with the token from p at hand -/
theorem numl (hG : aGd R) (hGr : aGd Rr) (h4 : 4 ≤ d' + 1) (hn9 : n ≤ 900) (h0 : (Ic 43 2).toInt = 0) (hn : (Ic 1 1).toInt = n) (hp : (Ic 1 2).toInt = p) (hpn : p ≤ n) (hb : bX Ic n = b) (tk : isTok b p st k e) (rt : rTok b n Ir Jr st k e) (lo hi : Int32) : ∃ (Ic' : Nat → Nat → Int32) (Jc' : Nat → Nat → Int64) (y : Int32), xEv L xs (d + 3) 30 0 [.ref 43, .int lo, .int hi, xmk, xmk] [] (124, Ic, Jc, R) (some (.int y)) (124, Ic', Jc', R) ∧ alX Ic Ic' Jc Jc' ∧ (((Ic' 43 2).toInt ≠ 0 ∧ ∃ Ir' : Nat → Nat → Int32, xEv L xs (d' + 3) 159 0 [.ref 86, .int lo, .int hi] [] (124, Ir, Jr, Rr) (some (.int 0)) (124, Ir', Jr, Rr) ∧ alM Ir Ir' Jr Jr ∧ (Ic' 43 2).toInt = (Ir' 86 8).toInt ∧ (Ic' 43 3).toInt = (Ir' 86 9).toInt) ∨ ((Ic' 43 2).toInt = 0 ∧ Ic' 43 3 = Ic 43 3 ∧ cTok b n Ic' Jc' st k e ∧ k = 2 ∧ lo.toInt ≤ y.toInt ∧ y.toInt ≤ hi.toInt ∧ ∃ (st' k' e' : Nat) (Ir' : Nat → Nat → Int32) (Jr' : Nat → Nat → Int64), xEv L xs (d' + 3) 159 0 [.ref 86, .int lo, .int hi] [] (124, Ir, Jr, Rr) (some (.int 1)) (124, Ir', Jr', Rr) ∧ isTok b e st' k' e' ∧ rTok b n Ir' Jr' st' k' e' ∧ Ir' 86 11 = y ∧ Ir' 86 8 = Ir 86 8 ∧ Ir' 86 9 = Ir 86 9 ∧ alM Ir Ir' Jr Jr')) := by
  obtain ⟨st2, k2, e2, Ic2, Jc2, y, c2, tk2, b1, b2, al2, hh2⟩ := nu_run (L := L) (xs := xs) (d := d) (R := R) (J := Jc) hG hn9 h0 hn hp hpn hb lo hi
  obtain ⟨g1, g2, g3⟩ := isTok_u tk tk2
  subst g1
  subst g2
  subst g3
  have dn := mn_run (L := L) (xs := xs) (d := d') (R := Rr) (b := b) (n := n) (I := Ir) (J := Jr) hGr h4 hn9 tk rt lo hi
  have hval : cKd k (e - st) = 2 → (vF b st (e - st)).toInt = (nF b st (e - st)).toInt := by
    intro hk
    obtain ⟨u1, u2⟩ := ck_2.mp hk
    subst u1
    obtain ⟨u3, u4⟩ := tok_n tk
    exact (num_eq u3 u2 u4).1
  have hkr : cKd k (e - st) = 2 ↔ rSo k (e - st) = 2 := by rw [ck_2, rs_2]
  refine ⟨Ic2, Jc2, y, c2, al2, ?_⟩
  rcases hh2 with ⟨h1, h2, h3, h5, h6, h7, h8⟩ | ⟨h1, h2, h3, h5⟩ | ⟨h1, h2, h3⟩
  · have ev2 : Jc2 1 5 = vF b st (e - st) := h7.2.2.2.2.1 (Or.inr (ck_2.mp h1).1)
    rw [ev2] at h2 h3 h8
    have ey : y = nF b st (e - st) := by rw [h8]; exact l2i_n (hval h1)
    right
    rcases dn with ⟨w1, w2, w3, st3, k3, e3, Ir3, Jr3, d3, tk3, rt3, w4, w5, w6, ar3⟩ | ⟨I', w1, -, w2, ⟨w3, w4⟩ | ⟨w3, w4, w5⟩⟩
    · exact ⟨h5, h6, h7, (ck_2.mp h1).1, by rw [ey]; exact w2, by rw [ey]; exact w3, st3, k3, e3, Ir3, Jr3, d3, tk3, rt3, by rw [w4, ey], w5, w6, ar3⟩
    · exact absurd (hkr.mp h1) w3
    · exact absurd ⟨by rw [← hval h1]; exact h2, by rw [← hval h1]; exact h3⟩ w4
  · left
    refine ⟨by omega, ?_⟩
    rcases dn with ⟨w1, w2, w3, -⟩ | ⟨I', w1, w0, w2, ⟨w3, w4⟩ | ⟨w3, w4, w5⟩⟩
    · rw [hval h1] at h2
      exact absurd ⟨w2, w3⟩ h2
    · exact absurd (hkr.mp h1) w3
    · exact ⟨I', w1, w0, by omega, by omega⟩
  · left
    refine ⟨by omega, ?_⟩
    rcases dn with ⟨w1, w2, w3, -⟩ | ⟨I', w1, w0, w2, ⟨w3, w4⟩ | ⟨w3, w4, w5⟩⟩
    · exact absurd (hkr.mpr w1) h1
    · exact ⟨I', w1, w0, by omega, by omega⟩
    · exact absurd (hkr.mpr w3) h1
end NL
section OL4
variable {L : Nat} {xs : Nat → Int32} {d d' : Nat} {R Rr : Nat → Nat → Nat} {b : Nat → Int32} {n p st k e : Nat} {Ic Ir : Nat → Nat → Int32} {Jc Jr : Nat → Nat → Int64}
/-- what may follow: the class at p, the reference with the token from p at hand -/
theorem optl_4 (hG : aGd R) (hGr : aGd Rr) (h4 : 4 ≤ d' + 1) (hn9 : n ≤ 900) (h0 : (Ic 43 2).toInt = 0) (hn : (Ic 1 1).toInt = n) (hp : (Ic 1 2).toInt = p) (hpn : p ≤ n) (hb : bX Ic n = b) (tk : isTok b p st k e) (rt : rTok b n Ir Jr st k e) (lo hi ot : Int32) : ∃ (Ic' : Nat → Nat → Int32) (Jc' : Nat → Nat → Int64) (x : Int32), xEv L xs (d + 5) 31 0 [.ref 43, .retAddr 3, .int lo, .int hi, .int ot, xmk] [] (124, Ic, Jc, R) (some (.int x)) (124, Ic', Jc', R) ∧ alX Ic Ic' Jc Jc' ∧ ((x = ot ∧ (Ic' 43 2).toInt = 0 ∧ Ic' 43 3 = Ic 43 3 ∧ cTok b n Ic' Jc' st k e ∧ xEv L xs (d' + 3) 161 0 [.ref 86, .int 4] [] (124, Ir, Jr, Rr) (some (.int 0)) (124, Ir, Jr, Rr)) ∨ (xEv L xs (d' + 3) 161 0 [.ref 86, .int 4] [] (124, Ir, Jr, Rr) (some (.int 1)) (124, Ir, Jr, Rr) ∧ ∃ (Ir4 : Nat → Nat → Int32) (Jr4 : Nat → Nat → Int64), xEv L xs (d' + 3) 150 0 [.ref 86, xmk, xmk, xmk] [] (124, Ir, Jr, Rr) none (124, Ir4, Jr4, Rr) ∧ alS Ir Ir4 Jr Jr4 ∧ (((Ic' 43 2).toInt ≠ 0 ∧ ∃ Ir' : Nat → Nat → Int32, xEv L xs (d' + 3) 159 0 [.ref 86, .int lo, .int hi] [] (124, Ir4, Jr4, Rr) (some (.int 0)) (124, Ir', Jr4, Rr) ∧ alM Ir4 Ir' Jr4 Jr4 ∧ (Ic' 43 2).toInt = (Ir' 86 8).toInt ∧ (Ic' 43 3).toInt = (Ir' 86 9).toInt) ∨ ((Ic' 43 2).toInt = 0 ∧ Ic' 43 3 = Ic 43 3 ∧ ∃ (st' k' e' : Nat) (Ir' : Nat → Nat → Int32) (Jr' : Nat → Nat → Int64), xEv L xs (d' + 3) 159 0 [.ref 86, .int lo, .int hi] [] (124, Ir4, Jr4, Rr) (some (.int 1)) (124, Ir', Jr', Rr) ∧ e ≤ e' ∧ cTok b n Ic' Jc' st' k' e' ∧ rTok b n Ir' Jr' st' k' e' ∧ Ir' 86 11 = x ∧ Ir' 86 8 = Ir 86 8 ∧ Ir' 86 9 = Ir 86 9 ∧ alM Ir4 Ir' Jr4 Jr')))) := by
  obtain ⟨st3, k3, e3, Ic3, Jc3, x, c3, tk3, b3, al3, hh3⟩ := ro_run_4 (L := L) (xs := xs) (d := d) (R := R) (J := Jc) hG hn9 h0 hn hp hpn hb lo hi ot
  obtain ⟨g1, g2, g3⟩ := isTok_u tk tk3
  subst g1
  subst g2
  subst g3
  have hrs : rSo k (e - st) = 1 ↔ cKd k (e - st) = 1 := by rw [ck_1, rs_1]
  refine ⟨Ic3, Jc3, x, c3, al3, ?_⟩
  rcases ik_run (L := L) (xs := xs) (d := d' + 3) (J := Jr) hGr rt (K := 4) (j := 4) rfl (by decide) with ⟨gk, dk⟩ | ⟨gk, dk⟩
  · right
    rcases hh3 with ⟨u1, -⟩ | ⟨u1, st4, k4, e4, tk4, b4, hh4⟩
    · exact absurd ⟨hrs.mp gk.1, gk.2⟩ u1
    obtain ⟨st4', k4', e4', Ir4, Jr4, d4, tk4', rt4, ar4⟩ := sk_run (L := L) (xs := xs) (d := d' + 1) (R := Rr) (b := b) (n := n) (p := e) (J := Jr) hGr (by omega) hn9 rt.1 rt.2.1 b3 rt.2.2.2.2.2.2.2.1
    obtain ⟨g1, g2, g3⟩ := isTok_u tk4' tk4
    subst g1
    subst g2
    subst g3
    have dm := mn_run (L := L) (xs := xs) (d := d') (R := Rr) (b := b) (n := n) (I := Ir4) (J := Jr4) hGr h4 hn9 tk4 rt4 lo hi
    have hval4 : cKd k4' (e4' - st4') = 2 → (vF b st4' (e4' - st4')).toInt = (nF b st4' (e4' - st4')).toInt := by
      intro hk
      obtain ⟨u1, u2⟩ := ck_2.mp hk
      subst u1
      obtain ⟨u3, u4⟩ := tok_n tk4
      exact (num_eq u3 u2 u4).1
    have hkr4 : cKd k4' (e4' - st4') = 2 ↔ rSo k4' (e4' - st4') = 2 := by rw [ck_2, rs_2]
    refine ⟨dk, Ir4, Jr4, d4, ar4, ?_⟩
    rcases hh4 with ⟨v1, v2, v3, v4, v5, v6, st5, k5, e5, tk5, ct5⟩ | ⟨v1, v2, v3, v4⟩ | ⟨v1, v2, v3⟩
    · right
      rcases dm with ⟨z1, z2, z3, st5', k5', e5', Ir5, Jr5, d5, tk5', rt5, z4, z5, z6, ar5⟩ | ⟨I', z1, -, z2, ⟨z3, z4⟩ | ⟨z3, z4, z5⟩⟩
      · obtain ⟨g1, g2, g3⟩ := isTok_u tk5' tk5
        subst g1
        subst g2
        subst g3
        have ex : x = nF b st4' (e4' - st4') := by rw [v4]; exact l2i_n (hval4 v1)
        have p5 : e ≤ e5' := by
          have u := tok_prog tk4 (by intro z; have := (ck_2.mp v1).1; omega)
          have u2 := tk5.1.1
          have u3 : st5' ≤ e5' := rt5.2.2.2.2.2.2.2.2.2
          omega
        exact ⟨v5, v6, st5', k5', e5', Ir5, Jr5, d5, p5, ct5, rt5, by rw [z4, ex], by rw [z5, ar4.1 86 8 (by omega)], by rw [z6, ar4.1 86 9 (by omega)], ar5⟩
      · exact absurd (hkr4.mp v1) z3
      · exact absurd ⟨by rw [← hval4 v1]; exact v2, by rw [← hval4 v1]; exact v3⟩ z4
    · left
      refine ⟨by omega, ?_⟩
      rcases dm with ⟨w1, w2, w3, -⟩ | ⟨I', w1, w0, w2, ⟨w3, w4⟩ | ⟨w3, w4, w5⟩⟩
      · rw [hval4 v1] at v2
        exact absurd ⟨w2, w3⟩ v2
      · exact absurd (hkr4.mp v1) w3
      · exact ⟨I', w1, w0, by omega, by omega⟩
    · left
      refine ⟨by omega, ?_⟩
      rcases dm with ⟨w1, w2, w3, -⟩ | ⟨I', w1, w0, w2, ⟨w3, w4⟩ | ⟨w3, w4, w5⟩⟩
      · exact absurd (hkr4.mpr w1) v1
      · exact ⟨I', w1, w0, by omega, by omega⟩
      · exact absurd (hkr4.mpr w3) v1
  · left
    rcases hh3 with ⟨u1, u2, u3, u4, u5⟩ | ⟨u1, -⟩
    · exact ⟨u2, u3, u4, u5, dk⟩
    · exact absurd ⟨hrs.mpr u1.1, u1.2⟩ gk
end OL4
section OL5
variable {L : Nat} {xs : Nat → Int32} {d d' : Nat} {R Rr : Nat → Nat → Nat} {b : Nat → Int32} {n p st k e : Nat} {Ic Ir : Nat → Nat → Int32} {Jc Jr : Nat → Nat → Int64}
/-- what may follow: the class at p, the reference with the token from p at hand -/
theorem optl_5 (hG : aGd R) (hGr : aGd Rr) (h4 : 4 ≤ d' + 1) (hn9 : n ≤ 900) (h0 : (Ic 43 2).toInt = 0) (hn : (Ic 1 1).toInt = n) (hp : (Ic 1 2).toInt = p) (hpn : p ≤ n) (hb : bX Ic n = b) (tk : isTok b p st k e) (rt : rTok b n Ir Jr st k e) (lo hi ot : Int32) : ∃ (Ic' : Nat → Nat → Int32) (Jc' : Nat → Nat → Int64) (x : Int32), xEv L xs (d + 5) 31 0 [.ref 43, .retAddr 5, .int lo, .int hi, .int ot, xmk] [] (124, Ic, Jc, R) (some (.int x)) (124, Ic', Jc', R) ∧ alX Ic Ic' Jc Jc' ∧ ((x = ot ∧ (Ic' 43 2).toInt = 0 ∧ Ic' 43 3 = Ic 43 3 ∧ cTok b n Ic' Jc' st k e ∧ xEv L xs (d' + 3) 161 0 [.ref 86, .int 5] [] (124, Ir, Jr, Rr) (some (.int 0)) (124, Ir, Jr, Rr)) ∨ (xEv L xs (d' + 3) 161 0 [.ref 86, .int 5] [] (124, Ir, Jr, Rr) (some (.int 1)) (124, Ir, Jr, Rr) ∧ ∃ (Ir4 : Nat → Nat → Int32) (Jr4 : Nat → Nat → Int64), xEv L xs (d' + 3) 150 0 [.ref 86, xmk, xmk, xmk] [] (124, Ir, Jr, Rr) none (124, Ir4, Jr4, Rr) ∧ alS Ir Ir4 Jr Jr4 ∧ (((Ic' 43 2).toInt ≠ 0 ∧ ∃ Ir' : Nat → Nat → Int32, xEv L xs (d' + 3) 159 0 [.ref 86, .int lo, .int hi] [] (124, Ir4, Jr4, Rr) (some (.int 0)) (124, Ir', Jr4, Rr) ∧ alM Ir4 Ir' Jr4 Jr4 ∧ (Ic' 43 2).toInt = (Ir' 86 8).toInt ∧ (Ic' 43 3).toInt = (Ir' 86 9).toInt) ∨ ((Ic' 43 2).toInt = 0 ∧ Ic' 43 3 = Ic 43 3 ∧ ∃ (st' k' e' : Nat) (Ir' : Nat → Nat → Int32) (Jr' : Nat → Nat → Int64), xEv L xs (d' + 3) 159 0 [.ref 86, .int lo, .int hi] [] (124, Ir4, Jr4, Rr) (some (.int 1)) (124, Ir', Jr', Rr) ∧ e ≤ e' ∧ cTok b n Ic' Jc' st' k' e' ∧ rTok b n Ir' Jr' st' k' e' ∧ Ir' 86 11 = x ∧ Ir' 86 8 = Ir 86 8 ∧ Ir' 86 9 = Ir 86 9 ∧ alM Ir4 Ir' Jr4 Jr')))) := by
  obtain ⟨st3, k3, e3, Ic3, Jc3, x, c3, tk3, b3, al3, hh3⟩ := ro_run_5 (L := L) (xs := xs) (d := d) (R := R) (J := Jc) hG hn9 h0 hn hp hpn hb lo hi ot
  obtain ⟨g1, g2, g3⟩ := isTok_u tk tk3
  subst g1
  subst g2
  subst g3
  have hrs : rSo k (e - st) = 1 ↔ cKd k (e - st) = 1 := by rw [ck_1, rs_1]
  refine ⟨Ic3, Jc3, x, c3, al3, ?_⟩
  rcases ik_run (L := L) (xs := xs) (d := d' + 3) (J := Jr) hGr rt (K := 5) (j := 5) rfl (by decide) with ⟨gk, dk⟩ | ⟨gk, dk⟩
  · right
    rcases hh3 with ⟨u1, -⟩ | ⟨u1, st4, k4, e4, tk4, b4, hh4⟩
    · exact absurd ⟨hrs.mp gk.1, gk.2⟩ u1
    obtain ⟨st4', k4', e4', Ir4, Jr4, d4, tk4', rt4, ar4⟩ := sk_run (L := L) (xs := xs) (d := d' + 1) (R := Rr) (b := b) (n := n) (p := e) (J := Jr) hGr (by omega) hn9 rt.1 rt.2.1 b3 rt.2.2.2.2.2.2.2.1
    obtain ⟨g1, g2, g3⟩ := isTok_u tk4' tk4
    subst g1
    subst g2
    subst g3
    have dm := mn_run (L := L) (xs := xs) (d := d') (R := Rr) (b := b) (n := n) (I := Ir4) (J := Jr4) hGr h4 hn9 tk4 rt4 lo hi
    have hval4 : cKd k4' (e4' - st4') = 2 → (vF b st4' (e4' - st4')).toInt = (nF b st4' (e4' - st4')).toInt := by
      intro hk
      obtain ⟨u1, u2⟩ := ck_2.mp hk
      subst u1
      obtain ⟨u3, u4⟩ := tok_n tk4
      exact (num_eq u3 u2 u4).1
    have hkr4 : cKd k4' (e4' - st4') = 2 ↔ rSo k4' (e4' - st4') = 2 := by rw [ck_2, rs_2]
    refine ⟨dk, Ir4, Jr4, d4, ar4, ?_⟩
    rcases hh4 with ⟨v1, v2, v3, v4, v5, v6, st5, k5, e5, tk5, ct5⟩ | ⟨v1, v2, v3, v4⟩ | ⟨v1, v2, v3⟩
    · right
      rcases dm with ⟨z1, z2, z3, st5', k5', e5', Ir5, Jr5, d5, tk5', rt5, z4, z5, z6, ar5⟩ | ⟨I', z1, -, z2, ⟨z3, z4⟩ | ⟨z3, z4, z5⟩⟩
      · obtain ⟨g1, g2, g3⟩ := isTok_u tk5' tk5
        subst g1
        subst g2
        subst g3
        have ex : x = nF b st4' (e4' - st4') := by rw [v4]; exact l2i_n (hval4 v1)
        have p5 : e ≤ e5' := by
          have u := tok_prog tk4 (by intro z; have := (ck_2.mp v1).1; omega)
          have u2 := tk5.1.1
          have u3 : st5' ≤ e5' := rt5.2.2.2.2.2.2.2.2.2
          omega
        exact ⟨v5, v6, st5', k5', e5', Ir5, Jr5, d5, p5, ct5, rt5, by rw [z4, ex], by rw [z5, ar4.1 86 8 (by omega)], by rw [z6, ar4.1 86 9 (by omega)], ar5⟩
      · exact absurd (hkr4.mp v1) z3
      · exact absurd ⟨by rw [← hval4 v1]; exact v2, by rw [← hval4 v1]; exact v3⟩ z4
    · left
      refine ⟨by omega, ?_⟩
      rcases dm with ⟨w1, w2, w3, -⟩ | ⟨I', w1, w0, w2, ⟨w3, w4⟩ | ⟨w3, w4, w5⟩⟩
      · rw [hval4 v1] at v2
        exact absurd ⟨w2, w3⟩ v2
      · exact absurd (hkr4.mp v1) w3
      · exact ⟨I', w1, w0, by omega, by omega⟩
    · left
      refine ⟨by omega, ?_⟩
      rcases dm with ⟨w1, w2, w3, -⟩ | ⟨I', w1, w0, w2, ⟨w3, w4⟩ | ⟨w3, w4, w5⟩⟩
      · exact absurd (hkr4.mpr w1) v1
      · exact ⟨I', w1, w0, by omega, by omega⟩
      · exact absurd (hkr4.mpr w3) v1
  · left
    rcases hh3 with ⟨u1, u2, u3, u4, u5⟩ | ⟨u1, -⟩
    · exact ⟨u2, u3, u4, u5, dk⟩
    · exact absurd ⟨hrs.mpr u1.1, u1.2⟩ gk
end OL5
section PL3
variable {L : Nat} {xs : Nat → Int32} {d d' : Nat} {R Rr : Nat → Nat → Nat} {b : Nat → Int32} {n p np nm nn : Nat} {Ic Ir : Nat → Nat → Int32} {Jc Jr : Nat → Nat → Int64}
/-- a person's name: class and reference at p -/
theorem perl_3 (hG : aGd R) (hR : R 43 1 = 4) (hGr : aGd Rr) (h4 : 4 ≤ d' + 1) (hn9 : n ≤ 900) (h0 : (Ic 43 2).toInt = 0) (hn : (Ic 1 1).toInt = n) (hp : (Ic 1 2).toInt = p) (hpn : p ≤ n) (hb : bX Ic n = b) (rn : (Ir 86 2).toInt = n) (rp : (Ir 86 6).toInt = p) (rb : bM Ir n = b) (hP : PR_3 b np nm nn Ic Jc Ir Jr) (f : Int32) : ∃ (st k e : Nat) (Ic' : Nat → Nat → Int32) (Jc' : Nat → Nat → Int64) (z : Int32) (Ir' : Nat → Nat → Int32) (Jr' : Nat → Nat → Int64), xEv L xs (d + 3) 35 0 [.ref 43, .int f, xmk] [] (124, Ic, Jc, R) (some (.int z)) (124, Ic', Jc', R) ∧ xEv L xs (d' + 3) 150 0 [.ref 86, xmk, xmk, xmk] [] (124, Ir, Jr, Rr) none (124, Ir', Jr', Rr) ∧ isTok b p st k e ∧ e ≤ n ∧ alX Ic Ic' Jc Jc' ∧ alS Ir Ir' Jr Jr' ∧ rTok b n Ir' Jr' st k e ∧ (((Ir' 86 3).toInt ≠ 1 ∧ (Ic' 43 2).toInt = 1 ∧ (Ic' 43 3).toInt = (Ir' 86 5).toInt) ∨ ((Ir' 86 3).toInt = 1 ∧ k = 1 ∧ xEv L xs (d' + 3) 158 0 [.ref 86, xmk] [] (124, Ir', Jr', Rr) (some (.int z)) (124, Ir', Jr', Rr) ∧ (Ir' 86 5).toInt = st ∧ ((z.toInt = -1 ∧ (Ic' 43 2).toInt = 5 ∧ (Ic' 43 3).toInt = st) ∨ (0 ≤ z.toInt ∧ z.toInt < np ∧ z.toInt = f.toInt ∧ (Ic' 43 2).toInt = 3 ∧ (Ic' 43 3).toInt = st) ∨ (0 ≤ z.toInt ∧ z.toInt < np ∧ z.toInt ≠ f.toInt ∧ (Ic' 43 2).toInt = 0 ∧ Ic' 43 3 = Ic 43 3 ∧ cTok b n Ic' Jc' st k e)))) := by
  obtain ⟨⟨p1, p2, p3⟩, ⟨q1, q2⟩, ⟨q3, q4⟩, ⟨q5, q6⟩, q7, q8, q9, q10, q11, q12⟩ := hP
  obtain ⟨st, k, e, Ic1, Jc1, z, c1, tk, al, hh⟩ := pb_run_3 (L := L) (xs := xs) (d := d) (R := R) (J := Jc) hG hR hn9 h0 hn hp hpn hb q1 p1 f
  obtain ⟨st', k', e', Ir1, Jr1, d1, tk', rt, ar⟩ := sk_run (L := L) (xs := xs) (d := d' + 1) (R := Rr) (b := b) (n := n) (p := p) (I := Ir) (J := Jr) hGr (by omega) hn9 rn rp hpn rb
  obtain ⟨g1, g2, g3⟩ := isTok_u tk' tk
  subst g1
  subst g2
  subst g3
  refine ⟨st', k', e', Ic1, Jc1, z, Ir1, Jr1, c1, d1, tk, rt.2.2.2.2.2.2.2.2.1, al, ar, rt, ?_⟩
  have e3 := rt.2.2.1
  have e5 := rt.2.2.2.1
  rcases hh with ⟨h1, h2, h3⟩ | ⟨h1, h2, h3⟩
  · left
    refine ⟨fun z => h1 (ck_1.mpr (rs_1.mp (by omega))), h2, by omega⟩
  · right
    obtain ⟨ek, hm8⟩ := ck_1.mp h1
    subst ek
    obtain ⟨hl1, hlt1⟩ := tok_w tk
    have es1 : (Ir1 86 3).toInt = 1 := by rw [e3, rs_1.mpr ⟨rfl, hm8⟩]; rfl
    have ew1 : Jr1 86 10 = wF b st' (e' - st') := rt.2.2.2.2.1 rfl
    obtain ⟨z', dz, hz'⟩ := nd_run (L := L) (xs := xs) (d := d' + 3) (I := Ir1) (J := Jr1) hGr (m := np) (by rw [ar.1 88 3 (by omega)]; exact q2) p1
    have ezz : z.toInt = z'.toInt := by
      refine isIx_u h2 hz' (fun i hi => ?_)
      obtain ⟨-, -, -, st, m, w1, w2, w3, w4, w5⟩ := q7 i hi
      rw [ar.2 89 i (by omega), w4, w5, ew1]
      exact word_eq w2 hm8 w3 hlt1
    have ez : z = z' := Int32.toInt_inj.mp ezz
    subst ez
    have hz : z.toInt = -1 ∨ (0 ≤ z.toInt ∧ z.toInt < np) := by
      rcases h2 with ⟨u1, -⟩ | ⟨i, u1, u2, -⟩
      · exact Or.inl u1
      · exact Or.inr ⟨by omega, by omega⟩
    refine ⟨es1, rfl, dz, e5, ?_⟩
    rcases h3 with ⟨u1, u2, u3⟩ | ⟨u1, u2, u3, u4⟩ | ⟨u1, u2, u3, u4, u5⟩
    · exact Or.inl ⟨u1, u2, u3⟩
    · exact Or.inr (Or.inl ⟨by omega, by omega, u2, u3, u4⟩)
    · exact Or.inr (Or.inr ⟨by omega, by omega, u2, u3, u4, u5⟩)
end PL3
section PL23
variable {L : Nat} {xs : Nat → Int32} {d d' : Nat} {R Rr : Nat → Nat → Nat} {b : Nat → Int32} {n p np nm nn : Nat} {Ic Ir : Nat → Nat → Int32} {Jc Jr : Nat → Nat → Int64}
/-- a person's name: class and reference at p -/
theorem perl_23 (hG : aGd R) (hR : R 43 1 = 24) (hGr : aGd Rr) (h4 : 4 ≤ d' + 1) (hn9 : n ≤ 900) (h0 : (Ic 43 2).toInt = 0) (hn : (Ic 1 1).toInt = n) (hp : (Ic 1 2).toInt = p) (hpn : p ≤ n) (hb : bX Ic n = b) (rn : (Ir 86 2).toInt = n) (rp : (Ir 86 6).toInt = p) (rb : bM Ir n = b) (hP : PR_23 b np nm nn Ic Jc Ir Jr) (f : Int32) : ∃ (st k e : Nat) (Ic' : Nat → Nat → Int32) (Jc' : Nat → Nat → Int64) (z : Int32) (Ir' : Nat → Nat → Int32) (Jr' : Nat → Nat → Int64), xEv L xs (d + 3) 35 0 [.ref 43, .int f, xmk] [] (124, Ic, Jc, R) (some (.int z)) (124, Ic', Jc', R) ∧ xEv L xs (d' + 3) 150 0 [.ref 86, xmk, xmk, xmk] [] (124, Ir, Jr, Rr) none (124, Ir', Jr', Rr) ∧ isTok b p st k e ∧ e ≤ n ∧ alX Ic Ic' Jc Jc' ∧ alS Ir Ir' Jr Jr' ∧ rTok b n Ir' Jr' st k e ∧ (((Ir' 86 3).toInt ≠ 1 ∧ (Ic' 43 2).toInt = 1 ∧ (Ic' 43 3).toInt = (Ir' 86 5).toInt) ∨ ((Ir' 86 3).toInt = 1 ∧ k = 1 ∧ xEv L xs (d' + 3) 158 0 [.ref 86, xmk] [] (124, Ir', Jr', Rr) (some (.int z)) (124, Ir', Jr', Rr) ∧ (Ir' 86 5).toInt = st ∧ ((z.toInt = -1 ∧ (Ic' 43 2).toInt = 5 ∧ (Ic' 43 3).toInt = st) ∨ (0 ≤ z.toInt ∧ z.toInt < np ∧ z.toInt = f.toInt ∧ (Ic' 43 2).toInt = 3 ∧ (Ic' 43 3).toInt = st) ∨ (0 ≤ z.toInt ∧ z.toInt < np ∧ z.toInt ≠ f.toInt ∧ (Ic' 43 2).toInt = 0 ∧ Ic' 43 3 = Ic 43 3 ∧ cTok b n Ic' Jc' st k e)))) := by
  obtain ⟨⟨p1, p2, p3⟩, ⟨q1, q2⟩, ⟨q3, q4⟩, ⟨q5, q6⟩, q7, q8, q9, q10, q11, q12⟩ := hP
  obtain ⟨st, k, e, Ic1, Jc1, z, c1, tk, al, hh⟩ := pb_run_23 (L := L) (xs := xs) (d := d) (R := R) (J := Jc) hG hR hn9 h0 hn hp hpn hb q1 p1 f
  obtain ⟨st', k', e', Ir1, Jr1, d1, tk', rt, ar⟩ := sk_run (L := L) (xs := xs) (d := d' + 1) (R := Rr) (b := b) (n := n) (p := p) (I := Ir) (J := Jr) hGr (by omega) hn9 rn rp hpn rb
  obtain ⟨g1, g2, g3⟩ := isTok_u tk' tk
  subst g1
  subst g2
  subst g3
  refine ⟨st', k', e', Ic1, Jc1, z, Ir1, Jr1, c1, d1, tk, rt.2.2.2.2.2.2.2.2.1, al, ar, rt, ?_⟩
  have e3 := rt.2.2.1
  have e5 := rt.2.2.2.1
  rcases hh with ⟨h1, h2, h3⟩ | ⟨h1, h2, h3⟩
  · left
    refine ⟨fun z => h1 (ck_1.mpr (rs_1.mp (by omega))), h2, by omega⟩
  · right
    obtain ⟨ek, hm8⟩ := ck_1.mp h1
    subst ek
    obtain ⟨hl1, hlt1⟩ := tok_w tk
    have es1 : (Ir1 86 3).toInt = 1 := by rw [e3, rs_1.mpr ⟨rfl, hm8⟩]; rfl
    have ew1 : Jr1 86 10 = wF b st' (e' - st') := rt.2.2.2.2.1 rfl
    obtain ⟨z', dz, hz'⟩ := nd_run (L := L) (xs := xs) (d := d' + 3) (I := Ir1) (J := Jr1) hGr (m := np) (by rw [ar.1 88 3 (by omega)]; exact q2) p1
    have ezz : z.toInt = z'.toInt := by
      refine isIx_u h2 hz' (fun i hi => ?_)
      obtain ⟨-, -, -, st, m, w1, w2, w3, w4, w5⟩ := q7 i hi
      rw [ar.2 89 i (by omega), w4, w5, ew1]
      exact word_eq w2 hm8 w3 hlt1
    have ez : z = z' := Int32.toInt_inj.mp ezz
    subst ez
    have hz : z.toInt = -1 ∨ (0 ≤ z.toInt ∧ z.toInt < np) := by
      rcases h2 with ⟨u1, -⟩ | ⟨i, u1, u2, -⟩
      · exact Or.inl u1
      · exact Or.inr ⟨by omega, by omega⟩
    refine ⟨es1, rfl, dz, e5, ?_⟩
    rcases h3 with ⟨u1, u2, u3⟩ | ⟨u1, u2, u3, u4⟩ | ⟨u1, u2, u3, u4, u5⟩
    · exact Or.inl ⟨u1, u2, u3⟩
    · exact Or.inr (Or.inl ⟨by omega, by omega, u2, u3, u4⟩)
    · exact Or.inr (Or.inr ⟨by omega, by omega, u2, u3, u4, u5⟩)
end PL23
