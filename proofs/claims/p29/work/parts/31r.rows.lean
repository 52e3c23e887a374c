theorem rd_end {b : Nat → Int32} {n p st k e i : Nat} {Ic : Nat → Nat → Int32} {Jc : Nat → Nat → Int64} (hn9 : n ≤ 900) (hi : 225 ≤ i) (hp : 4 * i ≤ p) (tk : isTok b p st k e) (ct : cTok b n Ic Jc st k e) : k = 0 := by
  have a6 := ct.2.2.2.2.2.1
  have a7 := ct.2.2.2.2.2.2
  have t1 := tk.1.1
  have e0 : st = n := by omega
  rw [tk.2.1, kd_0, ← a6, e0]
  show (if n < n then Ic 2 n else -1).toInt = -1
  rw [if_neg (by omega)]
  rfl
/-- a telling has four bytes at least -/
theorem rd_four {b : Nat → Int32} {p st k e st1 k1 e1 st2 k2 e2 i : Nat} (hp : 4 * i ≤ p) (tk : isTok b p st k e) (tk1 : isTok b e st1 k1 e1) (tk2 : isTok b e1 st2 k2 e2) (hk2 : k = 2) (hk3 : k1 = 2) (hk4 : k2 = 3) : 4 * (i + 1) ≤ e2 := by
  subst hk2
  subst hk3
  subst hk4
  obtain ⟨o1, -⟩ := tok_n tk
  obtain ⟨o2, -⟩ := tok_n tk1
  have o3 := tk.1.1
  have o4 := tk1.1.1
  have o5 := tk2.1.1
  have o6 := tk2.2.2.2.2 (Or.inl rfl)
  have o7 : st1 ≠ e := by
    intro z
    have o8 := (tk.2.2.1 (Or.inr rfl)).2.2
    have o9 := tk1.2.1
    rw [z] at o9
    exact o8 o9.symm
  omega
/-- the class's loop alone -/
theorem rdc {L : Nat} {xs : Nat → Int32} {d : Nat} {R : Nat → Nat → Nat} {b : Nat → Int32} {n : Nat} (hG : aGd R) (hn9 : n ≤ 900) : ∀ (f i p st k e : Nat) (ii : Int32) (w3 w4 : Value) (Ic : Nat → Nat → Int32) (Jc : Nat → Nat → Int64), i + f = 225 → ii.toInt = i → 4 * i ≤ p → isTok b p st k e → cTok b n Ic Jc st k e → (Ic 44 4).toInt = i →
    ∃ (r : Int32) (Ic' : Nat → Nat → Int32) (Jc' : Nat → Nat → Int64), xEv L xs (d + 3) 54 11 [.ref 44, .ref 1, .int ii, w3, w4] [] (124, Ic, Jc, R) (some (.int r)) (124, Ic', Jc', R) ∧ rwC Ic Ic' ∧ (∀ q, q < i → Ic' 46 q = Ic 46 q) ∧ (r = 0 ∨ (r = 1 ∧ ∃ m : Nat, i ≤ m ∧ m ≤ 225 ∧ (Ic' 44 4).toInt = m)) := by
  intro f
  induction f with
  | zero =>
    intro i p st k e ii w3 w4 Ic Jc hi hii hp tk ct s1
    have hk := rd_end hn9 (by omega) hp tk ct
    exact ⟨1, Ic, Jc, rd_e hG (by omega) (by have := ct.2.2.1; rw [ck_0.mpr hk] at this; exact this), fun _ _ _ _ _ _ => rfl, fun _ _ => rfl, Or.inr ⟨rfl, i, by omega, by omega, s1⟩⟩
  | succ f ih =>
    intro i p st k e ii w3 w4 Ic Jc hi hii hp tk ct s1
    have hc := ct.2.2.1
    by_cases hk : k = 0
    · rw [ck_0.mpr hk] at hc
      exact ⟨1, Ic, Jc, rd_f hG (by omega) hc hc, fun _ _ _ _ _ _ => rfl, fun _ _ => rfl, Or.inr ⟨rfl, i, by omega, by omega, s1⟩⟩
    have hc' : (Ic 1 3).toInt ≠ 0 := fun z => hk (ck_0 (m := e - st) |>.mp (by omega))
    have em1 : (-1 : Int32).toInt = -1 := by decide
    have e64 : (64 : Int32).toInt = 64 := by decide
    have e4 : (4 : Int32).toInt = 4 := by decide
    have eci := clamp_s (i := ii) (by omega)
    have eki : ii.toNatClampNeg = i := by omega
    rcases rbc (L := L) (xs := xs) (d := d) (R := R) hG hn9 tk ct 64 with ⟨x2, x1⟩ | ⟨⟨x2, x3, x4⟩, st1, k1, e1, Ic1, Jc1, x1, tk1, ct1, al1⟩
    · rcases rbc (L := L) (xs := xs) (d := d) (R := R) hG hn9 tk ct 4 with ⟨z1, z2⟩ | ⟨⟨z1, z2, z3⟩, -⟩
      · exact ⟨0, Ic, Jc, rd_a hG (by omega) hc' x1 z2 em1, fun _ _ _ _ _ _ => rfl, fun _ _ => rfl, Or.inl rfl⟩
      · exact absurd ⟨z1, by omega⟩ x2
    have tne : (nF b st (e - st)).toInt ≠ -1 := by omega
    rcases rbc (L := L) (xs := xs) (d := d) (R := R) hG hn9 tk1 ct1 4 with ⟨y2, y1⟩ | ⟨⟨y2, y3, y4⟩, st2, k2, e2, Ic2, Jc2, y1, tk2, ct2, al2⟩
    · exact ⟨0, Ic1, Jc1, rd_b hG (by omega) hc' x1 y1 tne em1, rwC_a al1, fun q _ => al1.1 46 q (by omega), Or.inl rfl⟩
    have une : (nF b st1 (e1 - st1)).toInt ≠ -1 := by omega
    have hc2 := ct2.2.2.1
    by_cases hk4 : k2 = 3
    rotate_left
    · exact ⟨0, Ic2, Jc2, rd_c hG (by omega) hc' x1 y1 tne une (fun z => hk4 (ck_3 (m := e2 - st2) |>.mp (by omega))), rwC_t (rwC_a al1) (rwC_a al2), fun q _ => by rw [al2.1 46 q (by omega), al1.1 46 q (by omega)], Or.inl rfl⟩
    rw [ck_3.mpr hk4] at hc2
    obtain ⟨st3, k3, e3, Ic3, Jc3, x5, tk3, ct3, al3⟩ := adt (L := L) (xs := xs) (d := d + 1) (R := R) hG hn9 ct2
    have hi1 : (ii + 1).toInt = (i + 1 : Nat) := by rw [i_add1 (by omega)]; omega
    have hp2 : 4 * (i + 1) ≤ e2 := rd_four hp tk tk1 tk2 (ck_2.mp x2).1 (ck_2.mp y2).1 hk4
    obtain ⟨r, Ic', Jc', p1, p3, p4, p6⟩ := ih (i + 1) e2 st3 k3 e3 (ii + 1) (.int (nF b st (e - st))) (.int (nF b st1 (e1 - st1))) (uI (uI (uI Ic3 45 ii.toNatClampNeg (nF b st (e - st))) 46 ii.toNatClampNeg (nF b st1 (e1 - st1))) 44 4 (ii + 1)) Jc3 (by omega) hi1 hp2 tk3 (cTok_e ct3 (fun c q h => by rw [uI_n _ _ (by omega), uI_n _ _ (by omega), uI_n _ _ (by omega)])) (by rw [uI_s]; exact hi1)
    have c4 := put_in (L := L) (xs := xs) (d := d + 2) (I := Ic3) (J := Jc3) (R := R) (c := 45) (n := 225) (fun _ => rfl) (by decide) (i := ii) (nF b st (e - st)) (by omega) (by omega)
    have c5 := put_in (L := L) (xs := xs) (d := d + 2) (I := uI Ic3 45 ii.toNatClampNeg (nF b st (e - st))) (J := Jc3) (R := R) (c := 46) (n := 225) (fun _ => rfl) (by decide) (i := ii) (nF b st1 (e1 - st1)) (by omega) (by omega)
    refine ⟨r, Ic', Jc', rd_d hG (by omega) hc' x1 y1 tne une (by omega) x5 c4 c5 p1, ?_, ?_, ?_⟩
    · refine rwC_t (rwC_a al1) (rwC_t (rwC_a al2) (rwC_t (rwC_a al3) ?_))
      intro c q a1 a2 a3 a4
      rw [p3 c q a1 a2 a3 a4, uI_n _ _ (by omega), uI_n _ _ (by omega), uI_n _ _ (by omega)]
    · intro q hq
      rw [p4 q (by omega), uI_n _ _ (by omega), uI_n _ _ (by omega), uI_n _ _ (by omega), al3.1 46 q (by omega), al2.1 46 q (by omega), al1.1 46 q (by omega)]
    · rcases p6 with p6 | ⟨p6, m, m1, m2, m3⟩
      · exact Or.inl p6
      · exact Or.inr ⟨p6, m, by omega, m2, m3⟩
/-- what both make of the rows of a fight -/
def rwO (rc rr : Int32) (Ic' Ir' : Nat → Nat → Int32) : Prop := (rc = 0 ∧ rr = 0) ∨ (rc = 1 ∧ rr = 1 ∧ ∃ m : Nat, m ≤ 225 ∧ (Ic' 44 4).toInt = m ∧ (Ir' 86 30).toInt = m ∧ rwE m Ic' Ir' ∧ ∀ q, q < m → (Ir' 105 q).toInt < 2) ∨ (rc = 1 ∧ rr = 0 ∧ ∃ m j : Nat, m ≤ 225 ∧ (Ic' 44 4).toInt = m ∧ j < m ∧ 2 ≤ (Ic' 46 j).toInt)
theorem rwf {L : Nat} {xs : Nat → Int32} {d d' : Nat} {R Rr : Nat → Nat → Nat} {b : Nat → Int32} {n : Nat} (hG : aGd R) (hGr : aGd Rr) (h4 : 4 ≤ d' + 1) (hn9 : n ≤ 900) {mo : Int32} (hmo : mo.toInt = 1) : ∀ (f i p st k e : Nat) (ii : Int32) (w3 w4 : Value) (Ic Ir : Nat → Nat → Int32) (Jc Jr : Nat → Nat → Int64), i + f = 225 → ii.toInt = i → 4 * i ≤ p → isTok b p st k e → cTok b n Ic Jc st k e → rTok b n Ir Jr st k e → (Ic 44 4).toInt = i → (Ir 86 30).toInt = i → rwE i Ic Ir → (∀ q, q < i → (Ir 105 q).toInt < 2) →
    ∃ (rc rr : Int32) (Ic' Ir' : Nat → Nat → Int32) (Jc' Jr' : Nat → Nat → Int64), xEv L xs (d + 3) 54 11 [.ref 44, .ref 1, .int ii, w3, w4] [] (124, Ic, Jc, R) (some (.int rc)) (124, Ic', Jc', R) ∧ xEv L xs (d' + 4) 174 9 [.ref 86, .int mo] [] (124, Ir, Jr, Rr) (some (.int rr)) (124, Ir', Jr', Rr) ∧ rwC Ic Ic' ∧ rwR Ir Ir' ∧ Ir' 86 1 = Ir 86 1 ∧ rwO rc rr Ic' Ir' := by
  intro f
  induction f with
  | zero =>
    intro i p st k e ii w3 w4 Ic Ir Jc Jr hi hii hp tk ct rt s1 s2 hE hN
    have hk := rd_end hn9 (by omega) hp tk ct
    exact ⟨1, 1, Ic, Ir, Jc, Jr, rd_e hG (by omega) (by have := ct.2.2.1; rw [ck_0.mpr hk] at this; exact this), rq_e hGr (by have := rt.2.2.1; rw [rs_4.mpr hk] at this; exact this), fun _ _ _ _ _ _ => rfl, fun _ _ _ _ _ _ => rfl, rfl, Or.inr (Or.inl ⟨rfl, rfl, i, by omega, s1, s2, hE, hN⟩)⟩
  | succ f ih =>
    intro i p st k e ii w3 w4 Ic Ir Jc Jr hi hii hp tk ct rt s1 s2 hE hN
    have hc := ct.2.2.1
    have hr := rt.2.2.1
    by_cases hk : k = 0
    · rw [ck_0.mpr hk] at hc
      rw [rs_4.mpr hk] at hr
      exact ⟨1, 1, Ic, Ir, Jc, Jr, rd_f hG (by omega) hc hc, rq_e hGr hr, fun _ _ _ _ _ _ => rfl, fun _ _ _ _ _ _ => rfl, rfl, Or.inr (Or.inl ⟨rfl, rfl, i, by omega, s1, s2, hE, hN⟩)⟩
    have hc' : (Ic 1 3).toInt ≠ 0 := fun z => hk (ck_0 (m := e - st) |>.mp (by omega))
    have hr' : (Ir 86 3).toInt ≠ 4 := fun z => hk (rs_4 (m := e - st) |>.mp (by omega))
    have em1 : (-1 : Int32).toInt = -1 := by decide
    have e64 : (64 : Int32).toInt = 64 := by decide
    have e63 : (63 : Int32).toInt = 63 := by decide
    have e4 : (4 : Int32).toInt = 4 := by decide
    have eci := clamp_s (i := ii) (by omega)
    have eki : ii.toNatClampNeg = i := by omega
    rcases rbl (L := L) (xs := xs) (d := d) (d' := d') (R := R) (Rr := Rr) hG hGr h4 hn9 tk ct rt (B := 64) (hi := 63) (by decide) with ⟨x1, x2, Ir1, y1, y2⟩ | ⟨t, st1, k1, e1, Ic1, Ir1, Jc1, Jr1, x1, y1, hk2, t0, t1, tk1, ct1, rt1, g1, al1, ar1⟩
    · rcases rbc (L := L) (xs := xs) (d := d) (R := R) hG hn9 tk ct 4 with ⟨z1, z2⟩ | ⟨⟨z1, z2, z3⟩, -⟩
      · exact ⟨0, 0, Ic, Ir1, Jc, Jr, rd_a hG (by omega) hc' x1 z2 em1, rq_a hGr hr' y1, fun _ _ _ _ _ _ => rfl, rwR_a y2, y2.1 86 1 (by omega), Or.inl ⟨rfl, rfl⟩⟩
      · exact absurd ⟨z1, by omega⟩ x2
    have tne : t.toInt ≠ -1 := by omega
    have hrow1 : (Ir1 86 30).toInt = i := by rw [ar1.1 86 30 (by omega)]; exact s2
    have ec1 := clamp_s (i := Ir1 86 30) (by omega)
    have ek1 : (Ir1 86 30).toNatClampNeg = i := by omega
    have rt1' : rTok b n (uI Ir1 104 (Ir1 86 30).toNatClampNeg (Ir1 86 11)) Jr1 st1 k1 e1 := rTok_e rt1 (fun c q h => uI_n _ _ (by omega))
    have dn := mn_run (L := L) (xs := xs) (d := d') (R := Rr) (b := b) (n := n) (I := uI Ir1 104 (Ir1 86 30).toNatClampNeg (Ir1 86 11)) (J := Jr1) hGr h4 hn9 tk1 rt1' 0 mo
    rw [show (0 : Int32).toInt = 0 from by decide, hmo] at dn
    have hkr : cKd k1 (e1 - st1) = 2 ↔ rSo k1 (e1 - st1) = 2 := by rw [ck_2, rs_2]
    rcases rbc (L := L) (xs := xs) (d := d) (R := R) hG hn9 tk1 ct1 4 with ⟨z1, x2⟩ | ⟨⟨z1, u0, u1⟩, st2, k2, e2, Ic2, Jc2, x2, tk2, ct2, al2⟩
    · rcases dn with ⟨w1, w2, w3', -⟩ | ⟨Ir2, y2, ar2, -⟩
      · exact absurd ⟨hkr.mpr w1, by omega⟩ z1
      refine ⟨0, 0, Ic1, Ir2, Jc1, Jr1, rd_b hG (by omega) hc' x1 x2 tne em1, rq_b hGr hr' y1 (by omega) (by omega) y2, rwC_a al1, ?_, ?_, Or.inl ⟨rfl, rfl⟩⟩
      · intro c q a1 a2 a3 a4
        rw [ar2.1 c q (by omega), uI_n _ _ (by omega), ar1.1 c q (by omega)]
      · rw [ar2.1 86 1 (by omega), uI_n _ _ (by omega), ar1.1 86 1 (by omega)]
    have une : (nF b st1 (e1 - st1)).toInt ≠ -1 := by omega
    have hc2 := ct2.2.2.1
    have hi1 : (ii + 1).toInt = (i + 1 : Nat) := by rw [i_add1 (by omega)]; omega
    rcases dn with ⟨w1, w2, w3', st2', k2', e2', Ir2, Jr2, y2, tk2', rt2, g2, -, -, ar2⟩ | ⟨Ir2, y2, ar2, -, w3'⟩
    rotate_left
    · have hbig : 2 ≤ (nF b st1 (e1 - st1)).toInt := by
        rcases w3' with ⟨w3', -⟩ | ⟨-, w4', -⟩
        · exact absurd (hkr.mp z1) w3'
        · omega
      have refE := rq_b hGr hr' y1 (by omega) (by omega) y2
      have frR : rwR Ir Ir2 := by
        intro c q a1 a2 a3 a4
        rw [ar2.1 c q (by omega), uI_n _ _ (by omega), ar1.1 c q (by omega)]
      have tpR : Ir2 86 1 = Ir 86 1 := by rw [ar2.1 86 1 (by omega), uI_n _ _ (by omega), ar1.1 86 1 (by omega)]
      by_cases hk4 : k2 = 3
      rotate_left
      · exact ⟨0, 0, Ic2, Ir2, Jc2, Jr1, rd_c hG (by omega) hc' x1 x2 tne une (fun z => hk4 (ck_3 (m := e2 - st2) |>.mp (by omega))), refE, rwC_t (rwC_a al1) (rwC_a al2), frR, tpR, Or.inl ⟨rfl, rfl⟩⟩
      rw [ck_3.mpr hk4] at hc2
      obtain ⟨st3, k3, e3, Ic3, Jc3, x3, tk3, ct3, al3⟩ := adt (L := L) (xs := xs) (d := d + 1) (R := R) hG hn9 ct2
      have hp2 : 4 * (i + 1) ≤ e2 := rd_four hp tk tk1 tk2 hk2 (ck_2.mp z1).1 hk4
      obtain ⟨r, Ic', Jc', p1, p3, p4, p6⟩ := rdc (L := L) (xs := xs) (d := d) (R := R) (b := b) (n := n) hG hn9 f (i + 1) e2 st3 k3 e3 (ii + 1) (.int t) (.int (nF b st1 (e1 - st1))) (uI (uI (uI Ic3 45 ii.toNatClampNeg t) 46 ii.toNatClampNeg (nF b st1 (e1 - st1))) 44 4 (ii + 1)) Jc3 (by omega) hi1 hp2 tk3 (cTok_e ct3 (fun c q h => by rw [uI_n _ _ (by omega), uI_n _ _ (by omega), uI_n _ _ (by omega)])) (by rw [uI_s]; exact hi1)
      have c4 := put_in (L := L) (xs := xs) (d := d + 2) (I := Ic3) (J := Jc3) (R := R) (c := 45) (n := 225) (fun _ => rfl) (by decide) (i := ii) t (by omega) (by omega)
      have c5 := put_in (L := L) (xs := xs) (d := d + 2) (I := uI Ic3 45 ii.toNatClampNeg t) (J := Jc3) (R := R) (c := 46) (n := 225) (fun _ => rfl) (by decide) (i := ii) (nF b st1 (e1 - st1)) (by omega) (by omega)
      refine ⟨r, 0, Ic', Ir2, Jc', Jr1, rd_d hG (by omega) hc' x1 x2 tne une (by omega) x3 c4 c5 p1, refE, ?_, frR, tpR, ?_⟩
      · refine rwC_t (rwC_a al1) (rwC_t (rwC_a al2) (rwC_t (rwC_a al3) ?_))
        intro c q a1 a2 a3 a4
        rw [p3 c q a1 a2 a3 a4, uI_n _ _ (by omega), uI_n _ _ (by omega), uI_n _ _ (by omega)]
      · rcases p6 with p6 | ⟨p6, m, m1, m2, m3⟩
        · exact Or.inl ⟨p6, rfl⟩
        · refine Or.inr (Or.inr ⟨p6, rfl, m, i, m2, m3, by omega, ?_⟩)
          rw [p4 i (by omega), uI_n _ _ (by omega), eki, uI_s]
          exact hbig
    obtain ⟨v1, v2, v3⟩ := isTok_u tk2 tk2'
    subst v1
    subst v2
    subst v3
    generalize nF b st1 (e1 - st1) = u at *
    have hrow2 : (Ir2 86 30).toInt = i := by rw [ar2.1 86 30 (by omega), uI_n _ _ (by omega)]; exact hrow1
    have ec2 := clamp_s (i := Ir2 86 30) (by omega)
    have ek2 : (Ir2 86 30).toNatClampNeg = i := by omega
    have rt2' : rTok b n (uI Ir2 105 (Ir2 86 30).toNatClampNeg (Ir2 86 11)) Jr2 st2 k2 e2 := rTok_e rt2 (fun c q h => uI_n _ _ (by omega))
    have hr2' : (Ir2 86 3).toInt = rSo k2 (e2 - st2) := rt2.2.2.1
    by_cases hk4 : k2 = 3
    rotate_left
    · refine ⟨0, 0, Ic2, _, Jc2, _, rd_c hG (by omega) hc' x1 x2 tne une (fun z => hk4 (ck_3 (m := e2 - st2) |>.mp (by omega))), rq_c hGr hr' y1 (by omega) (by omega) y2 (by omega) (by omega) (fun z => hk4 (rs_3 (m := e2 - st2) |>.mp (by omega))), rwC_t (rwC_a al1) (rwC_a al2), ?_, ?_, Or.inl ⟨rfl, rfl⟩⟩
      · intro c q a1 a2 a3 a4
        rw [uI_n _ _ (by omega), ar2.1 c q (by omega), uI_n _ _ (by omega), ar1.1 c q (by omega)]
      · rw [uI_n _ _ (by omega), ar2.1 86 1 (by omega), uI_n _ _ (by omega), ar1.1 86 1 (by omega)]
    rw [ck_3.mpr hk4] at hc2
    rw [rs_3.mpr hk4] at hr2'
    obtain ⟨st3, k3, e3, Ic3, Jc3, x3, tk3, ct3, al3⟩ := adt (L := L) (xs := xs) (d := d + 1) (R := R) hG hn9 ct2
    obtain ⟨st4, k4, e4', Ir3, Jr3, y3, tk4, rt3, as3⟩ := sk_run (L := L) (xs := xs) (d := d' + 1) (R := Rr) (b := b) (n := n) (I := uI Ir2 105 (Ir2 86 30).toNatClampNeg (Ir2 86 11)) (J := Jr2) hGr (by omega) hn9 rt2'.1 rt2'.2.1 rt2'.2.2.2.2.2.2.2.2.1 rt2'.2.2.2.2.2.2.2.1
    obtain ⟨v1, v2, v3⟩ := isTok_u tk3 tk4
    subst v1
    subst v2
    subst v3
    have hrow3 : (Ir3 86 30).toInt = i := by rw [as3.1 86 30 (by omega), uI_n _ _ (by omega)]; exact hrow2
    have hp2 : 4 * (i + 1) ≤ e2 := rd_four hp tk tk1 tk2 hk2 (ck_2.mp z1).1 hk4
    have f1 : ∀ q, (uI Ir3 86 30 (Ir3 86 30 + 1)) 104 q = (uI Ir1 104 i t) 104 q := by
      intro q
      rw [uI_n _ _ (by omega), as3.1 104 q (by omega), uI_n _ _ (by omega), ar2.1 104 q (by omega), ek1, g1]
    have f2 : ∀ q, (uI Ir3 86 30 (Ir3 86 30 + 1)) 105 q = (uI Ir2 105 i u) 105 q := by
      intro q
      rw [uI_n _ _ (by omega), as3.1 105 q (by omega), ek2, g2]
    have f3 : ∀ q, q ≠ i → (uI Ir2 105 i u) 105 q = Ir 105 q := by
      intro q hq
      rw [uI_n _ _ (by omega), ar2.1 105 q (by omega), uI_n _ _ (by omega), ar1.1 105 q (by omega)]
    have hE' : rwE (i + 1) (uI (uI (uI Ic3 45 ii.toNatClampNeg t) 46 ii.toNatClampNeg u) 44 4 (ii + 1)) (uI Ir3 86 30 (Ir3 86 30 + 1)) := by
      intro q hq
      rw [f1, f2, uI_n _ _ (by omega), uI_n _ _ (by omega), uI_n (uI (uI Ic3 45 ii.toNatClampNeg t) 46 ii.toNatClampNeg u) _ (by omega), eki]
      by_cases hqi : q = i
      · subst hqi
        rw [uI_s, uI_s, uI_s, uI_s]
        exact ⟨rfl, rfl, t0, by omega, u0, by omega⟩
      · obtain ⟨m1, m2, m3⟩ := hE q (by omega)
        rw [f3 q hqi, uI_n _ _ (by omega), uI_n _ _ (by omega), uI_n _ _ (by omega), ar1.1 104 q (by omega), al3.1 45 q (by omega), uI_n Ic3 _ (by omega), al3.1 46 q (by omega), al2.1 45 q (by omega), al2.1 46 q (by omega), al1.1 45 q (by omega), al1.1 46 q (by omega)]
        exact ⟨m1, m2, m3⟩
    have hN' : ∀ q, q < i + 1 → ((uI Ir3 86 30 (Ir3 86 30 + 1)) 105 q).toInt < 2 := by
      intro q hq
      rw [f2]
      by_cases hqi : q = i
      · subst hqi
        rw [uI_s]
        omega
      · rw [f3 q hqi]
        exact hN q (by omega)
    have hs2 : ((uI Ir3 86 30 (Ir3 86 30 + 1)) 86 30).toInt = (i + 1 : Nat) := by
      rw [uI_s, i_add1 (by omega)]
      omega
    obtain ⟨rc, rr, Ic', Ir', Jc', Jr', p1, p2, p3, p4, p5, p6⟩ := ih (i + 1) e2 st3 k3 e3 (ii + 1) (.int t) (.int u) (uI (uI (uI Ic3 45 ii.toNatClampNeg t) 46 ii.toNatClampNeg u) 44 4 (ii + 1)) (uI Ir3 86 30 (Ir3 86 30 + 1)) Jc3 Jr3 (by omega) hi1 hp2 tk3 (cTok_e ct3 (fun c q h => by rw [uI_n _ _ (by omega), uI_n _ _ (by omega), uI_n _ _ (by omega)])) (rTok_e rt3 (fun c q h => uI_n _ _ (by omega))) (by rw [uI_s]; exact hi1) hs2 hE' hN'
    have c4 := put_in (L := L) (xs := xs) (d := d + 2) (I := Ic3) (J := Jc3) (R := R) (c := 45) (n := 225) (fun _ => rfl) (by decide) (i := ii) t (by omega) (by omega)
    have c5 := put_in (L := L) (xs := xs) (d := d + 2) (I := uI Ic3 45 ii.toNatClampNeg t) (J := Jc3) (R := R) (c := 46) (n := 225) (fun _ => rfl) (by decide) (i := ii) u (by omega) (by omega)
    refine ⟨rc, rr, Ic', Ir', Jc', Jr', rd_d hG (by omega) hc' x1 x2 tne une (by omega) x3 c4 c5 p1, rq_d hGr hr' y1 (by omega) (by omega) y2 (by omega) (by omega) (by omega) y3 p2, ?_, ?_, ?_, p6⟩
    · refine rwC_t (rwC_a al1) (rwC_t (rwC_a al2) (rwC_t (rwC_a al3) ?_))
      intro c q a1 a2 a3 a4
      rw [p3 c q a1 a2 a3 a4, uI_n _ _ (by omega), uI_n _ _ (by omega), uI_n _ _ (by omega)]
    · intro c q a1 a2 a3 a4
      rw [p4 c q a1 a2 a3 a4, uI_n _ _ (by omega), as3.1 c q (by omega), uI_n _ _ (by omega), ar2.1 c q (by omega), uI_n _ _ (by omega), ar1.1 c q (by omega)]
    · rw [p5, uI_n _ _ (by omega), as3.1 86 1 (by omega), uI_n _ _ (by omega), ar2.1 86 1 (by omega), uI_n _ _ (by omega), ar1.1 86 1 (by omega)]
