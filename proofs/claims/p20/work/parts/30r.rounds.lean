set_option maxRecDepth 20000 in
theorem rl_g_3 {L : Nat} {xs : Nat → Int32} {d : Nat} {I : Nat → Nat → Int32} {J : Nat → Nat → Int64} {R : Nat → Nat → Nat} {i : Int32} (hG : aGd R) (b1 : i.toInt ≥ 900) (b2 : (I 43 2).toInt ≠ 0) : xEv L xs d 18 28 [.ref 43, .ref 3, .int i] [] (124, I, J, R) (some (.int (-1))) (124, I, J, R) := by
  refine ev_go 2 (pc1 := 32) (lv1 := [.ref 43, .ref 3, .int i]) (st1 := [.int 900, .int i]) (h1 := (124, I, J, R)) rfl ?_
  refine ev_br (b1 := true) rfl rfl (xcd_ge (x := i) (y := 900) (by rw [show ((900 : Int32)).toInt = 900 from by decide]; first | exact b1 | omega)) ?_
  refine ev_go 2 (pc1 := 147) (lv1 := [.ref 43, .ref 3, .int i]) (st1 := [.int (I 43 2)]) (h1 := (124, I, J, R)) rfl ?_
  refine ev_br (b1 := false) rfl rfl (xcd_neq (x := (I 43 2)) (y := 0) (by rw [show ((0 : Int32)).toInt = 0 from by decide]; first | exact b2 | omega)) ?_
  refine ev_go 1 (pc1 := 151) (lv1 := [.ref 43, .ref 3, .int i]) (st1 := [.int (-1)]) (h1 := (124, I, J, R)) rfl ?_
  exact ev_ret rfl rfl
set_option maxRecDepth 20000 in
theorem rl_h_3 {L : Nat} {xs : Nat → Int32} {d : Nat} {I : Nat → Nat → Int32} {J : Nat → Nat → Int64} {R : Nat → Nat → Nat} {i : Int32} (hG : aGd R) (b1 : i.toInt ≥ 900) (b2 : (I 43 2).toInt = 0) {v : Option Value} {h' : xH} (hk : xEv L xs d 18 152 [.ref 43, .ref 3, .int i] [] (124, I, J, R) v h') : xEv L xs d 18 28 [.ref 43, .ref 3, .int i] [] (124, I, J, R) v h' := by
  refine ev_go 2 (pc1 := 32) (lv1 := [.ref 43, .ref 3, .int i]) (st1 := [.int 900, .int i]) (h1 := (124, I, J, R)) rfl ?_
  refine ev_br (b1 := true) rfl rfl (xcd_ge (x := i) (y := 900) (by rw [show ((900 : Int32)).toInt = 900 from by decide]; first | exact b1 | omega)) ?_
  refine ev_go 2 (pc1 := 147) (lv1 := [.ref 43, .ref 3, .int i]) (st1 := [.int (I 43 2)]) (h1 := (124, I, J, R)) rfl ?_
  refine ev_br (b1 := true) rfl rfl (xcd_eq (x := (I 43 2)) (y := 0) (by rw [show ((0 : Int32)).toInt = 0 from by decide]; first | exact b2 | omega)) ?_
  exact hk
section LP3
variable {L : Nat} {xs : Nat → Int32} {d d' : Nat} {R Rr : Nat → Nat → Nat} {b : Nat → Int32} {n : Nat}
theorem loop_3 (hG : aGd R) (hR : R 43 1 = 4) (hGr : aGd Rr) (h4 : 4 ≤ d' + 1) (hn9 : n ≤ 900) : ∀ (f : Nat) (i m : Int32) (Ic Ir : Nat → Nat → Int32) (Jc Jr : Nat → Nat → Int64) (p0 st0 k0 e0 np nm nn : Nat), n - p0 = f → 0 ≤ i.toInt → i.toInt ≤ p0 → 0 ≤ m.toInt → m.toInt ≤ p0 → p0 ≤ n → (Ic 43 2).toInt = 0 → Ic 3 17 = m → isTok b p0 st0 k0 e0 → cTok b n Ic Jc st0 k0 e0 → rTok b n Ir Jr st0 k0 e0 → PR_3 b np nm nn Ic Jc Ir Jr →
    (∃ (Ic' Ir' : Nat → Nat → Int32) (Jc' Jr' : Nat → Nat → Int64), xEv L xs (d + 7) 18 28 [.ref 43, .ref 3, .int i] [] (124, Ic, Jc, R) (some (.int (-1))) (124, Ic', Jc', R) ∧ xEv L xs (d' + 6) 148 20 [.ref 86, .int m] [] (124, Ir, Jr, Rr) (some (.int (-1))) (124, Ir', Jr', Rr) ∧ (Ic' 17 5 = Ic 17 5 ∧ FRc_3 Ic Ic') ∧ (Ic' 43 2).toInt ≠ 0 ∧ (Ic' 43 2).toInt = (Ir' 86 8).toInt ∧ (Ic' 43 3).toInt = (Ir' 86 9).toInt ∧ FRr Ir Ir') ∨
    (∃ (i' m' : Int32) (Ic' Ir' : Nat → Nat → Int32) (Jc' Jr' : Nat → Nat → Int64) (st e np' nm' nn' : Nat), (∀ vv h', xEv L xs (d + 7) 18 152 [.ref 43, .ref 3, .int i'] [] (124, Ic', Jc', R) vv h' → xEv L xs (d + 7) 18 28 [.ref 43, .ref 3, .int i] [] (124, Ic, Jc, R) vv h') ∧ (∀ vv h', xEv L xs (d' + 6) 148 63 [.ref 86, .int m'] [] (124, Ir', Jr', Rr) vv h' → xEv L xs (d' + 6) 148 20 [.ref 86, .int m] [] (124, Ir, Jr, Rr) vv h') ∧ (Ic' 17 5 = Ic 17 5 ∧ FRc_3 Ic Ic') ∧ (Ic' 43 2).toInt = 0 ∧ Ic' 43 3 = Ic 43 3 ∧ Ir' 86 8 = Ir 86 8 ∧ Ir' 86 9 = Ir 86 9 ∧ (Ic' 3 17 = m' ∧ 0 ≤ m'.toInt) ∧ cTok b n Ic' Jc' st 0 e ∧ rTok b n Ir' Jr' st 0 e ∧ PR_3 b np' nm' nn' Ic' Jc' Ir' Jr' ∧ FRr Ir Ir') := by
  intro f
  induction f using Nat.strongRecOn with
  | ind f ih =>
    intro i m Ic Ir Jc Jr p0 st0 k0 e0 np nm nn hf hi0 hip hm0 hmp hpn h0 hm tk hc hr hP
    by_cases hk : k0 = 0
    · subst hk
      have ek : (Ic 1 3).toInt = 0 := by rw [hc.2.2.1]; exact congrArg (fun (z : Nat) => (z : Int)) ((ck_0 (k := 0) (m := e0 - st0)).mpr rfl)
      have es : (Ir 86 3).toInt = 4 := by rw [hr.2.2.1]; exact congrArg (fun (z : Nat) => (z : Int)) ((rs_4 (k := 0) (m := e0 - st0)).mpr rfl)
      refine Or.inr ⟨i, m, Ic, Ir, Jc, Jr, st0, e0, np, nm, nn, ?_, fun vv h' h => vl_e hGr es h, ⟨rfl, fun _ _ _ _ _ => rfl⟩, h0, rfl, rfl, rfl, ⟨hm, hm0⟩, hc, hr, hP, fun _ _ _ _ _ _ _ => rfl⟩
      intro vv h' h
      by_cases hi : i.toInt < 900
      · exact rl_e_3 hG hi h0 ek h0 h
      · exact rl_h_3 hG (by omega) h0 h
    · have hpe := tok_prog tk hk
      have hen : e0 ≤ n := hc.2.2.2.2.2.2.1
      have hi1 := i_add1 (x := i) (by omega)
      have hm1 := i_add1 (x := m) (by omega)
      obtain ⟨Ic1, Jc1, x1, ⟨x2, x3⟩, ⟨Ir1, Jr1, y1, y2, y3, y4, y0⟩ | ⟨Ir1, Jr1, st, k, e, np', nm', nn', pos, y1, y2, y3, y4, y5, y6, y7, tk1, hc1, hr1, hP1, y0⟩⟩ := round_3 (L := L) (xs := xs) (d := d) (d' := d') (i := i) (m := m) hG hR hGr h4 hn9 (by omega) h0 tk hk hc hr hP
      · refine Or.inl ⟨Ic1, Ir1, Jc1, Jr1, x1 _ _ ?_, y1, ⟨x2, x3⟩, y2, y3, y4, y0⟩
        by_cases hi : (i + 1).toInt < 900
        · exact rl_f_3 hG hi y2 y2
        · exact rl_g_3 hG (by omega) y2
      · have hps := tk1.1.1
        have hse := hc1.2.2.2.2.2.2.2
        have hen1 := hc1.2.2.2.2.2.2.1
        rcases ih (n - pos) (by omega) (i + 1) (m + 1) Ic1 Ir1 Jc1 Jr1 pos st k e np' nm' nn' rfl (by omega) (by omega) (by omega) (by omega) (by omega) y2 (by rw [y6, hm]) tk1 hc1 hr1 hP1 with ⟨Ic2, Ir2, Jc2, Jr2, z1, z2, z3, z4, z5, z6, z0⟩ | ⟨i', m', Ic2, Ir2, Jc2, Jr2, st2, e2, np2, nm2, nn2, z1, z2, z3, z4, z5, z6, z7, z8, z9, z10, z11, z0⟩
        · exact Or.inl ⟨Ic2, Ir2, Jc2, Jr2, x1 _ _ z1, y1 _ _ z2, ⟨z3.1.trans x2, frc_t_3 x3 z3.2⟩, z4, z5, z6, fr_t y0 z0⟩
        · exact Or.inr ⟨i', m', Ic2, Ir2, Jc2, Jr2, st2, e2, np2, nm2, nn2, fun vv h' h => x1 _ _ (z1 _ _ h), fun vv h' h => y1 _ _ (z2 _ _ h), ⟨z3.1.trans x2, frc_t_3 x3 z3.2⟩, z4, z5.trans y3, z6.trans y4, z7.trans y5, z8, z9, z10, z11, fr_t y0 z0⟩
end LP3
set_option maxRecDepth 20000 in
theorem rl_g_23 {L : Nat} {xs : Nat → Int32} {d : Nat} {I : Nat → Nat → Int32} {J : Nat → Nat → Int64} {R : Nat → Nat → Nat} {i : Int32} (hG : aGd R) (b1 : i.toInt ≥ 900) (b2 : (I 43 2).toInt ≠ 0) : xEv L xs d 18 28 [.ref 43, .ref 23, .int i] [] (124, I, J, R) (some (.int (-1))) (124, I, J, R) := by
  refine ev_go 2 (pc1 := 32) (lv1 := [.ref 43, .ref 23, .int i]) (st1 := [.int 900, .int i]) (h1 := (124, I, J, R)) rfl ?_
  refine ev_br (b1 := true) rfl rfl (xcd_ge (x := i) (y := 900) (by rw [show ((900 : Int32)).toInt = 900 from by decide]; first | exact b1 | omega)) ?_
  refine ev_go 2 (pc1 := 147) (lv1 := [.ref 43, .ref 23, .int i]) (st1 := [.int (I 43 2)]) (h1 := (124, I, J, R)) rfl ?_
  refine ev_br (b1 := false) rfl rfl (xcd_neq (x := (I 43 2)) (y := 0) (by rw [show ((0 : Int32)).toInt = 0 from by decide]; first | exact b2 | omega)) ?_
  refine ev_go 1 (pc1 := 151) (lv1 := [.ref 43, .ref 23, .int i]) (st1 := [.int (-1)]) (h1 := (124, I, J, R)) rfl ?_
  exact ev_ret rfl rfl
set_option maxRecDepth 20000 in
theorem rl_h_23 {L : Nat} {xs : Nat → Int32} {d : Nat} {I : Nat → Nat → Int32} {J : Nat → Nat → Int64} {R : Nat → Nat → Nat} {i : Int32} (hG : aGd R) (b1 : i.toInt ≥ 900) (b2 : (I 43 2).toInt = 0) {v : Option Value} {h' : xH} (hk : xEv L xs d 18 152 [.ref 43, .ref 23, .int i] [] (124, I, J, R) v h') : xEv L xs d 18 28 [.ref 43, .ref 23, .int i] [] (124, I, J, R) v h' := by
  refine ev_go 2 (pc1 := 32) (lv1 := [.ref 43, .ref 23, .int i]) (st1 := [.int 900, .int i]) (h1 := (124, I, J, R)) rfl ?_
  refine ev_br (b1 := true) rfl rfl (xcd_ge (x := i) (y := 900) (by rw [show ((900 : Int32)).toInt = 900 from by decide]; first | exact b1 | omega)) ?_
  refine ev_go 2 (pc1 := 147) (lv1 := [.ref 43, .ref 23, .int i]) (st1 := [.int (I 43 2)]) (h1 := (124, I, J, R)) rfl ?_
  refine ev_br (b1 := true) rfl rfl (xcd_eq (x := (I 43 2)) (y := 0) (by rw [show ((0 : Int32)).toInt = 0 from by decide]; first | exact b2 | omega)) ?_
  exact hk
section LP23
variable {L : Nat} {xs : Nat → Int32} {d d' : Nat} {R Rr : Nat → Nat → Nat} {b : Nat → Int32} {n : Nat}
theorem loop_23 (hG : aGd R) (hR : R 43 1 = 24) (hGr : aGd Rr) (h4 : 4 ≤ d' + 1) (hn9 : n ≤ 900) : ∀ (f : Nat) (i m : Int32) (Ic Ir : Nat → Nat → Int32) (Jc Jr : Nat → Nat → Int64) (p0 st0 k0 e0 np nm nn : Nat), n - p0 = f → 0 ≤ i.toInt → i.toInt ≤ p0 → 0 ≤ m.toInt → m.toInt ≤ p0 → p0 ≤ n → (Ic 43 2).toInt = 0 → Ic 23 17 = m → isTok b p0 st0 k0 e0 → cTok b n Ic Jc st0 k0 e0 → rTok b n Ir Jr st0 k0 e0 → PR_23 b np nm nn Ic Jc Ir Jr →
    (∃ (Ic' Ir' : Nat → Nat → Int32) (Jc' Jr' : Nat → Nat → Int64), xEv L xs (d + 7) 18 28 [.ref 43, .ref 23, .int i] [] (124, Ic, Jc, R) (some (.int (-1))) (124, Ic', Jc', R) ∧ xEv L xs (d' + 6) 148 20 [.ref 86, .int m] [] (124, Ir, Jr, Rr) (some (.int (-1))) (124, Ir', Jr', Rr) ∧ (Ic' 37 5 = Ic 37 5 ∧ FRc_23 Ic Ic') ∧ (Ic' 43 2).toInt ≠ 0 ∧ (Ic' 43 2).toInt = (Ir' 86 8).toInt ∧ (Ic' 43 3).toInt = (Ir' 86 9).toInt ∧ FRr Ir Ir') ∨
    (∃ (i' m' : Int32) (Ic' Ir' : Nat → Nat → Int32) (Jc' Jr' : Nat → Nat → Int64) (st e np' nm' nn' : Nat), (∀ vv h', xEv L xs (d + 7) 18 152 [.ref 43, .ref 23, .int i'] [] (124, Ic', Jc', R) vv h' → xEv L xs (d + 7) 18 28 [.ref 43, .ref 23, .int i] [] (124, Ic, Jc, R) vv h') ∧ (∀ vv h', xEv L xs (d' + 6) 148 63 [.ref 86, .int m'] [] (124, Ir', Jr', Rr) vv h' → xEv L xs (d' + 6) 148 20 [.ref 86, .int m] [] (124, Ir, Jr, Rr) vv h') ∧ (Ic' 37 5 = Ic 37 5 ∧ FRc_23 Ic Ic') ∧ (Ic' 43 2).toInt = 0 ∧ Ic' 43 3 = Ic 43 3 ∧ Ir' 86 8 = Ir 86 8 ∧ Ir' 86 9 = Ir 86 9 ∧ (Ic' 23 17 = m' ∧ 0 ≤ m'.toInt) ∧ cTok b n Ic' Jc' st 0 e ∧ rTok b n Ir' Jr' st 0 e ∧ PR_23 b np' nm' nn' Ic' Jc' Ir' Jr' ∧ FRr Ir Ir') := by
  intro f
  induction f using Nat.strongRecOn with
  | ind f ih =>
    intro i m Ic Ir Jc Jr p0 st0 k0 e0 np nm nn hf hi0 hip hm0 hmp hpn h0 hm tk hc hr hP
    by_cases hk : k0 = 0
    · subst hk
      have ek : (Ic 1 3).toInt = 0 := by rw [hc.2.2.1]; exact congrArg (fun (z : Nat) => (z : Int)) ((ck_0 (k := 0) (m := e0 - st0)).mpr rfl)
      have es : (Ir 86 3).toInt = 4 := by rw [hr.2.2.1]; exact congrArg (fun (z : Nat) => (z : Int)) ((rs_4 (k := 0) (m := e0 - st0)).mpr rfl)
      refine Or.inr ⟨i, m, Ic, Ir, Jc, Jr, st0, e0, np, nm, nn, ?_, fun vv h' h => vl_e hGr es h, ⟨rfl, fun _ _ _ _ _ => rfl⟩, h0, rfl, rfl, rfl, ⟨hm, hm0⟩, hc, hr, hP, fun _ _ _ _ _ _ _ => rfl⟩
      intro vv h' h
      by_cases hi : i.toInt < 900
      · exact rl_e_23 hG hi h0 ek h0 h
      · exact rl_h_23 hG (by omega) h0 h
    · have hpe := tok_prog tk hk
      have hen : e0 ≤ n := hc.2.2.2.2.2.2.1
      have hi1 := i_add1 (x := i) (by omega)
      have hm1 := i_add1 (x := m) (by omega)
      obtain ⟨Ic1, Jc1, x1, ⟨x2, x3⟩, ⟨Ir1, Jr1, y1, y2, y3, y4, y0⟩ | ⟨Ir1, Jr1, st, k, e, np', nm', nn', pos, y1, y2, y3, y4, y5, y6, y7, tk1, hc1, hr1, hP1, y0⟩⟩ := round_23 (L := L) (xs := xs) (d := d) (d' := d') (i := i) (m := m) hG hR hGr h4 hn9 (by omega) h0 tk hk hc hr hP
      · refine Or.inl ⟨Ic1, Ir1, Jc1, Jr1, x1 _ _ ?_, y1, ⟨x2, x3⟩, y2, y3, y4, y0⟩
        by_cases hi : (i + 1).toInt < 900
        · exact rl_f_23 hG hi y2 y2
        · exact rl_g_23 hG (by omega) y2
      · have hps := tk1.1.1
        have hse := hc1.2.2.2.2.2.2.2
        have hen1 := hc1.2.2.2.2.2.2.1
        rcases ih (n - pos) (by omega) (i + 1) (m + 1) Ic1 Ir1 Jc1 Jr1 pos st k e np' nm' nn' rfl (by omega) (by omega) (by omega) (by omega) (by omega) y2 (by rw [y6, hm]) tk1 hc1 hr1 hP1 with ⟨Ic2, Ir2, Jc2, Jr2, z1, z2, z3, z4, z5, z6, z0⟩ | ⟨i', m', Ic2, Ir2, Jc2, Jr2, st2, e2, np2, nm2, nn2, z1, z2, z3, z4, z5, z6, z7, z8, z9, z10, z11, z0⟩
        · exact Or.inl ⟨Ic2, Ir2, Jc2, Jr2, x1 _ _ z1, y1 _ _ z2, ⟨z3.1.trans x2, frc_t_23 x3 z3.2⟩, z4, z5, z6, fr_t y0 z0⟩
        · exact Or.inr ⟨i', m', Ic2, Ir2, Jc2, Jr2, st2, e2, np2, nm2, nn2, fun vv h' h => x1 _ _ (z1 _ _ h), fun vv h' h => y1 _ _ (z2 _ _ h), ⟨z3.1.trans x2, frc_t_23 x3 z3.2⟩, z4, z5.trans y3, z6.trans y4, z7.trans y5, z8, z9, z10, z11, fr_t y0 z0⟩
end LP23
