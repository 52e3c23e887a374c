section PB3
variable {L : Nat} {xs : Nat → Int32} {d : Nat} {R : Nat → Nat → Nat} {b : Nat → Int32} {n p m : Nat} {I : Nat → Nat → Int32} {J : Nat → Nat → Int64}
theorem pb_run_3 (hG : aGd R) (hR : R 43 1 = 4) (hn9 : n ≤ 900) (h0 : (I 43 2).toInt = 0) (hn : (I 1 1).toInt = n) (hp : (I 1 2).toInt = p) (hpn : p ≤ n) (hb : bX I n = b) (hm : (I 3 14).toInt = m) (hm7 : m ≤ 7) (f : Int32) : ∃ (st k e : Nat) (I' : Nat → Nat → Int32) (J' : Nat → Nat → Int64) (z : Int32), xEv L xs (d + 3) 35 0 [.ref 43, .int f, xmk] [] (124, I, J, R) (some (.int z)) (124, I', J', R) ∧ isTok b p st k e ∧ alX I I' J J' ∧ ((cKd k (e - st) ≠ 1 ∧ (I' 43 2).toInt = 1 ∧ (I' 43 3).toInt = st) ∨ (cKd k (e - st) = 1 ∧ isIx (fun i => J 4 i = vF b st (e - st)) m z.toInt ∧ ((z.toInt = -1 ∧ (I' 43 2).toInt = 5 ∧ (I' 43 3).toInt = st) ∨ (z.toInt ≠ -1 ∧ z.toInt = f.toInt ∧ (I' 43 2).toInt = 3 ∧ (I' 43 3).toInt = st) ∨ (z.toInt ≠ -1 ∧ z.toInt ≠ f.toInt ∧ (I' 43 2).toInt = 0 ∧ I' 43 3 = I 43 3 ∧ cTok b n I' J' st k e)))) := by
  obtain ⟨st, k, e, I1, J1, val, c1, tk, a1, a2, al, hh⟩ := tk_run (L := L) (xs := xs) (d := d) (R := R) (J := J) hG hn9 h0 hn hp hpn hb (K := 1) (K' := 1) (by decide)
  have hm1 : (I1 3 14).toInt = m := by rw [al.1 3 14 (by omega) (by omega)]; exact hm
  obtain ⟨z, c2, hz⟩ := pn_run_3 (L := L) (xs := xs) (d := d + 2) (J := J1) (I := I1) hG hm1 hm7 val
  have eJ : ∀ i, J1 4 i = J 4 i := fun i => al.2 4 i (by omega)
  rcases hh with ⟨hk, f1, f2, f3, f4⟩ | ⟨hk, f1, f2⟩
  · have ev : val = vF b st (e - st) := by rw [f4]; exact f3.2.2.2.2.1 (Or.inl (ck_1.mp hk).1)
    have hix : isIx (fun i => J 4 i = vF b st (e - st)) m z.toInt := by
      rcases hz with ⟨g1, g2⟩ | ⟨i, g1, g2, g3, g4⟩
      · exact Or.inl ⟨g1, fun i hi => by dsimp only; rw [← eJ, ← ev]; exact g2 i hi⟩
      · exact Or.inr ⟨i, g1, g2, by dsimp only; rw [← eJ, ← ev]; exact g3, fun i' hi => by dsimp only; rw [← eJ, ← ev]; exact g4 i' hi⟩
    by_cases g1 : z.toInt = -1
    · exact ⟨st, k, e, _, J1, z, pb_1_3 hG hR c1 c2 g1 (fl_a hG f1), tk, alX_t al (alX_F _ _), Or.inr ⟨hk, hix, Or.inl ⟨g1, rfl, f3.2.2.2.1⟩⟩⟩
    · by_cases g2 : z.toInt = f.toInt
      · exact ⟨st, k, e, _, J1, z, pb_2_3 hG hR c1 c2 g1 g2 (fl_a hG f1), tk, alX_t al (alX_F _ _), Or.inr ⟨hk, hix, Or.inr (Or.inl ⟨g1, g2, rfl, f3.2.2.2.1⟩)⟩⟩
      · exact ⟨st, k, e, I1, J1, z, pb_3_3 hG hR c1 c2 g1 g2, tk, al, Or.inr ⟨hk, hix, Or.inr (Or.inr ⟨g1, g2, f1, f2, f3⟩)⟩⟩
  · by_cases g1 : z.toInt = -1
    · exact ⟨st, k, e, I1, J1, z, pb_1d_3 hG hR c1 c2 g1 (fl_d hG (by omega)), tk, al, Or.inl ⟨hk, f1, f2⟩⟩
    · by_cases g2 : z.toInt = f.toInt
      · exact ⟨st, k, e, I1, J1, z, pb_2d_3 hG hR c1 c2 g1 g2 (fl_d hG (by omega)), tk, al, Or.inl ⟨hk, f1, f2⟩⟩
      · exact ⟨st, k, e, I1, J1, z, pb_3_3 hG hR c1 c2 g1 g2, tk, al, Or.inl ⟨hk, f1, f2⟩⟩
end PB3
section PB23
variable {L : Nat} {xs : Nat → Int32} {d : Nat} {R : Nat → Nat → Nat} {b : Nat → Int32} {n p m : Nat} {I : Nat → Nat → Int32} {J : Nat → Nat → Int64}
theorem pb_run_23 (hG : aGd R) (hR : R 43 1 = 24) (hn9 : n ≤ 900) (h0 : (I 43 2).toInt = 0) (hn : (I 1 1).toInt = n) (hp : (I 1 2).toInt = p) (hpn : p ≤ n) (hb : bX I n = b) (hm : (I 23 14).toInt = m) (hm7 : m ≤ 7) (f : Int32) : ∃ (st k e : Nat) (I' : Nat → Nat → Int32) (J' : Nat → Nat → Int64) (z : Int32), xEv L xs (d + 3) 35 0 [.ref 43, .int f, xmk] [] (124, I, J, R) (some (.int z)) (124, I', J', R) ∧ isTok b p st k e ∧ alX I I' J J' ∧ ((cKd k (e - st) ≠ 1 ∧ (I' 43 2).toInt = 1 ∧ (I' 43 3).toInt = st) ∨ (cKd k (e - st) = 1 ∧ isIx (fun i => J 24 i = vF b st (e - st)) m z.toInt ∧ ((z.toInt = -1 ∧ (I' 43 2).toInt = 5 ∧ (I' 43 3).toInt = st) ∨ (z.toInt ≠ -1 ∧ z.toInt = f.toInt ∧ (I' 43 2).toInt = 3 ∧ (I' 43 3).toInt = st) ∨ (z.toInt ≠ -1 ∧ z.toInt ≠ f.toInt ∧ (I' 43 2).toInt = 0 ∧ I' 43 3 = I 43 3 ∧ cTok b n I' J' st k e)))) := by
  obtain ⟨st, k, e, I1, J1, val, c1, tk, a1, a2, al, hh⟩ := tk_run (L := L) (xs := xs) (d := d) (R := R) (J := J) hG hn9 h0 hn hp hpn hb (K := 1) (K' := 1) (by decide)
  have hm1 : (I1 23 14).toInt = m := by rw [al.1 23 14 (by omega) (by omega)]; exact hm
  obtain ⟨z, c2, hz⟩ := pn_run_23 (L := L) (xs := xs) (d := d + 2) (J := J1) (I := I1) hG hm1 hm7 val
  have eJ : ∀ i, J1 24 i = J 24 i := fun i => al.2 24 i (by omega)
  rcases hh with ⟨hk, f1, f2, f3, f4⟩ | ⟨hk, f1, f2⟩
  · have ev : val = vF b st (e - st) := by rw [f4]; exact f3.2.2.2.2.1 (Or.inl (ck_1.mp hk).1)
    have hix : isIx (fun i => J 24 i = vF b st (e - st)) m z.toInt := by
      rcases hz with ⟨g1, g2⟩ | ⟨i, g1, g2, g3, g4⟩
      · exact Or.inl ⟨g1, fun i hi => by dsimp only; rw [← eJ, ← ev]; exact g2 i hi⟩
      · exact Or.inr ⟨i, g1, g2, by dsimp only; rw [← eJ, ← ev]; exact g3, fun i' hi => by dsimp only; rw [← eJ, ← ev]; exact g4 i' hi⟩
    by_cases g1 : z.toInt = -1
    · exact ⟨st, k, e, _, J1, z, pb_1_23 hG hR c1 c2 g1 (fl_a hG f1), tk, alX_t al (alX_F _ _), Or.inr ⟨hk, hix, Or.inl ⟨g1, rfl, f3.2.2.2.1⟩⟩⟩
    · by_cases g2 : z.toInt = f.toInt
      · exact ⟨st, k, e, _, J1, z, pb_2_23 hG hR c1 c2 g1 g2 (fl_a hG f1), tk, alX_t al (alX_F _ _), Or.inr ⟨hk, hix, Or.inr (Or.inl ⟨g1, g2, rfl, f3.2.2.2.1⟩)⟩⟩
      · exact ⟨st, k, e, I1, J1, z, pb_3_23 hG hR c1 c2 g1 g2, tk, al, Or.inr ⟨hk, hix, Or.inr (Or.inr ⟨g1, g2, f1, f2, f3⟩)⟩⟩
  · by_cases g1 : z.toInt = -1
    · exact ⟨st, k, e, I1, J1, z, pb_1d_23 hG hR c1 c2 g1 (fl_d hG (by omega)), tk, al, Or.inl ⟨hk, f1, f2⟩⟩
    · by_cases g2 : z.toInt = f.toInt
      · exact ⟨st, k, e, I1, J1, z, pb_2d_23 hG hR c1 c2 g1 g2 (fl_d hG (by omega)), tk, al, Or.inl ⟨hk, f1, f2⟩⟩
      · exact ⟨st, k, e, I1, J1, z, pb_3_23 hG hR c1 c2 g1 g2, tk, al, Or.inl ⟨hk, f1, f2⟩⟩
end PB23
set_option maxRecDepth 20000 in
theorem ro_d_4 {L : Nat} {xs : Nat → Int32} {d : Nat} {I : Nat → Nat → Int32} {J : Nat → Nat → Int64} {R : Nat → Nat → Nat} {lo hi ot : Int32} (hG : aGd R) (b1 : (I 43 2).toInt ≠ 0) : xEv L xs d 31 0 [.ref 43, .retAddr 3, .int lo, .int hi, .int ot, xmk] [] (124, I, J, R) (some (.int ot)) (124, I, J, R) := by
  refine ev_go 2 (pc1 := 4) (lv1 := [.ref 43, .retAddr 3, .int lo, .int hi, .int ot, xmk]) (st1 := [.int (I 43 2)]) (h1 := (124, I, J, R)) rfl ?_
  refine ev_br (b1 := false) rfl rfl (xcd_neq (x := (I 43 2)) (y := 0) (by rw [show ((0 : Int32)).toInt = 0 from by decide]; first | exact b1 | omega)) ?_
  refine ev_go 1 (pc1 := 9) (lv1 := [.ref 43, .retAddr 3, .int lo, .int hi, .int ot, xmk]) (st1 := [.int ot]) (h1 := (124, I, J, R)) rfl ?_
  exact ev_ret rfl rfl
set_option maxRecDepth 20000 in
theorem ro_1_4 {L : Nat} {xs : Nat → Int32} {d : Nat} {I : Nat → Nat → Int32} {J : Nat → Nat → Int64} {R : Nat → Nat → Nat} {I1 : Nat → Nat → Int32} {J1 : Nat → Nat → Int64} {lo hi ot : Int32} (hG : aGd R) (b1 : (I 43 2).toInt = 0) (c1 : xEv L xs d 21 0 [.ref 1] [] (124, I, J, R) none (124, I1, J1, R)) (c2 : xEv L xs d 25 0 [.ref 1, .retAddr 3, xmk, xmk, xmk] [] (124, I1, J1, R) (some (.int 0)) (124, I1, J1, R)) : xEv L xs (d + 1) 31 0 [.ref 43, .retAddr 3, .int lo, .int hi, .int ot, xmk] [] (124, I, J, R) (some (.int ot)) (124, I1, J1, R) := by
  refine ev_go 2 (pc1 := 4) (lv1 := [.ref 43, .retAddr 3, .int lo, .int hi, .int ot, xmk]) (st1 := [.int (I 43 2)]) (h1 := (124, I, J, R)) rfl ?_
  refine ev_br (b1 := true) rfl rfl (xcd_eq (x := (I 43 2)) (y := 0) (by rw [show ((0 : Int32)).toInt = 0 from by decide]; first | exact b1 | omega)) ?_
  refine ev_go 1 (pc1 := 11) (lv1 := [.ref 43, .retAddr 3, .int lo, .int hi, .int ot, xmk]) (st1 := [.ref 43]) (h1 := (124, I, J, R)) rfl ?_
  refine ev_gf (c := 43) (t := 1) (X := R 43 0) rfl rfl (fun _ => rfl) rfl (hG 43 0 1 rfl rfl) ?_
  refine ev_call (v1 := none) (h1 := (124, I1, J1, R)) rfl rfl c1 ?_
  refine ev_go 1 (pc1 := 18) (lv1 := [.ref 43, .retAddr 3, .int lo, .int hi, .int ot, xmk]) (st1 := [.ref 43]) (h1 := (124, I1, J1, R)) rfl ?_
  refine ev_gf (c := 43) (t := 1) (X := R 43 0) rfl rfl (fun _ => rfl) rfl (hG 43 0 1 rfl rfl) ?_
  refine ev_go 1 (pc1 := 22) (lv1 := [.ref 43, .retAddr 3, .int lo, .int hi, .int ot, xmk]) (st1 := [.retAddr 3, .ref 1]) (h1 := (124, I1, J1, R)) rfl ?_
  refine ev_call (v1 := (some (.int 0))) (h1 := (124, I1, J1, R)) rfl rfl c2 ?_
  refine ev_go 2 (pc1 := 30) (lv1 := [.ref 43, .retAddr 3, .int lo, .int hi, .int ot, xmk]) (st1 := [.int ot]) (h1 := (124, I1, J1, R)) rfl ?_
  exact ev_ret rfl rfl
set_option maxRecDepth 20000 in
theorem ro_2_4 {L : Nat} {xs : Nat → Int32} {d : Nat} {I : Nat → Nat → Int32} {J : Nat → Nat → Int64} {R : Nat → Nat → Nat} {I1 : Nat → Nat → Int32} {J1 : Nat → Nat → Int64} {I2 : Nat → Nat → Int32} {J2 : Nat → Nat → Int64} {lo hi ot z : Int32} (hG : aGd R) (b1 : (I 43 2).toInt = 0) (c1 : xEv L xs d 21 0 [.ref 1] [] (124, I, J, R) none (124, I1, J1, R)) (c2 : xEv L xs d 25 0 [.ref 1, .retAddr 3, xmk, xmk, xmk] [] (124, I1, J1, R) (some (.int 1)) (124, I1, J1, R)) (c3 : xEv L xs d 30 0 [.ref 43, .int lo, .int hi, xmk, xmk] [] (124, I1, J1, R) (some (.int z)) (124, I2, J2, R)) (b2 : (I2 43 2).toInt ≠ 0) : xEv L xs (d + 1) 31 0 [.ref 43, .retAddr 3, .int lo, .int hi, .int ot, xmk] [] (124, I, J, R) (some (.int z)) (124, I2, J2, R) := by
  refine ev_go 2 (pc1 := 4) (lv1 := [.ref 43, .retAddr 3, .int lo, .int hi, .int ot, xmk]) (st1 := [.int (I 43 2)]) (h1 := (124, I, J, R)) rfl ?_
  refine ev_br (b1 := true) rfl rfl (xcd_eq (x := (I 43 2)) (y := 0) (by rw [show ((0 : Int32)).toInt = 0 from by decide]; first | exact b1 | omega)) ?_
  refine ev_go 1 (pc1 := 11) (lv1 := [.ref 43, .retAddr 3, .int lo, .int hi, .int ot, xmk]) (st1 := [.ref 43]) (h1 := (124, I, J, R)) rfl ?_
  refine ev_gf (c := 43) (t := 1) (X := R 43 0) rfl rfl (fun _ => rfl) rfl (hG 43 0 1 rfl rfl) ?_
  refine ev_call (v1 := none) (h1 := (124, I1, J1, R)) rfl rfl c1 ?_
  refine ev_go 1 (pc1 := 18) (lv1 := [.ref 43, .retAddr 3, .int lo, .int hi, .int ot, xmk]) (st1 := [.ref 43]) (h1 := (124, I1, J1, R)) rfl ?_
  refine ev_gf (c := 43) (t := 1) (X := R 43 0) rfl rfl (fun _ => rfl) rfl (hG 43 0 1 rfl rfl) ?_
  refine ev_go 1 (pc1 := 22) (lv1 := [.ref 43, .retAddr 3, .int lo, .int hi, .int ot, xmk]) (st1 := [.retAddr 3, .ref 1]) (h1 := (124, I1, J1, R)) rfl ?_
  refine ev_call (v1 := (some (.int 1))) (h1 := (124, I1, J1, R)) rfl rfl c2 ?_
  refine ev_go 4 (pc1 := 34) (lv1 := [.ref 43, .retAddr 3, .int lo, .int hi, .int ot, xmk]) (st1 := [.int hi, .int lo, .ref 43]) (h1 := (124, I1, J1, R)) rfl ?_
  refine ev_call (v1 := (some (.int z))) (h1 := (124, I2, J2, R)) rfl rfl c3 ?_
  refine ev_go 3 (pc1 := 43) (lv1 := [.ref 43, .retAddr 3, .int lo, .int hi, .int ot, .int z]) (st1 := [.int (I2 43 2)]) (h1 := (124, I2, J2, R)) rfl ?_
  refine ev_br (b1 := true) rfl rfl (xcd_ne (x := (I2 43 2)) (y := 0) (by rw [show ((0 : Int32)).toInt = 0 from by decide]; first | exact b2 | omega)) ?_
  refine ev_go 1 (pc1 := 55) (lv1 := [.ref 43, .retAddr 3, .int lo, .int hi, .int ot, .int z]) (st1 := [.int z]) (h1 := (124, I2, J2, R)) rfl ?_
  exact ev_ret rfl rfl
set_option maxRecDepth 20000 in
theorem ro_3_4 {L : Nat} {xs : Nat → Int32} {d : Nat} {I : Nat → Nat → Int32} {J : Nat → Nat → Int64} {R : Nat → Nat → Nat} {I1 : Nat → Nat → Int32} {J1 : Nat → Nat → Int64} {I2 : Nat → Nat → Int32} {J2 : Nat → Nat → Int64} {I3 : Nat → Nat → Int32} {J3 : Nat → Nat → Int64} {lo hi ot z : Int32} (hG : aGd R) (b1 : (I 43 2).toInt = 0) (c1 : xEv L xs d 21 0 [.ref 1] [] (124, I, J, R) none (124, I1, J1, R)) (c2 : xEv L xs d 25 0 [.ref 1, .retAddr 3, xmk, xmk, xmk] [] (124, I1, J1, R) (some (.int 1)) (124, I1, J1, R)) (c3 : xEv L xs d 30 0 [.ref 43, .int lo, .int hi, xmk, xmk] [] (124, I1, J1, R) (some (.int z)) (124, I2, J2, R)) (b2 : (I2 43 2).toInt = 0) (c4 : xEv L xs d 21 0 [.ref 1] [] (124, I2, J2, R) none (124, I3, J3, R)) : xEv L xs (d + 1) 31 0 [.ref 43, .retAddr 3, .int lo, .int hi, .int ot, xmk] [] (124, I, J, R) (some (.int z)) (124, I3, J3, R) := by
  refine ev_go 2 (pc1 := 4) (lv1 := [.ref 43, .retAddr 3, .int lo, .int hi, .int ot, xmk]) (st1 := [.int (I 43 2)]) (h1 := (124, I, J, R)) rfl ?_
  refine ev_br (b1 := true) rfl rfl (xcd_eq (x := (I 43 2)) (y := 0) (by rw [show ((0 : Int32)).toInt = 0 from by decide]; first | exact b1 | omega)) ?_
  refine ev_go 1 (pc1 := 11) (lv1 := [.ref 43, .retAddr 3, .int lo, .int hi, .int ot, xmk]) (st1 := [.ref 43]) (h1 := (124, I, J, R)) rfl ?_
  refine ev_gf (c := 43) (t := 1) (X := R 43 0) rfl rfl (fun _ => rfl) rfl (hG 43 0 1 rfl rfl) ?_
  refine ev_call (v1 := none) (h1 := (124, I1, J1, R)) rfl rfl c1 ?_
  refine ev_go 1 (pc1 := 18) (lv1 := [.ref 43, .retAddr 3, .int lo, .int hi, .int ot, xmk]) (st1 := [.ref 43]) (h1 := (124, I1, J1, R)) rfl ?_
  refine ev_gf (c := 43) (t := 1) (X := R 43 0) rfl rfl (fun _ => rfl) rfl (hG 43 0 1 rfl rfl) ?_
  refine ev_go 1 (pc1 := 22) (lv1 := [.ref 43, .retAddr 3, .int lo, .int hi, .int ot, xmk]) (st1 := [.retAddr 3, .ref 1]) (h1 := (124, I1, J1, R)) rfl ?_
  refine ev_call (v1 := (some (.int 1))) (h1 := (124, I1, J1, R)) rfl rfl c2 ?_
  refine ev_go 4 (pc1 := 34) (lv1 := [.ref 43, .retAddr 3, .int lo, .int hi, .int ot, xmk]) (st1 := [.int hi, .int lo, .ref 43]) (h1 := (124, I1, J1, R)) rfl ?_
  refine ev_call (v1 := (some (.int z))) (h1 := (124, I2, J2, R)) rfl rfl c3 ?_
  refine ev_go 3 (pc1 := 43) (lv1 := [.ref 43, .retAddr 3, .int lo, .int hi, .int ot, .int z]) (st1 := [.int (I2 43 2)]) (h1 := (124, I2, J2, R)) rfl ?_
  refine ev_br (b1 := false) rfl rfl (xcd_nne (x := (I2 43 2)) (y := 0) (by rw [show ((0 : Int32)).toInt = 0 from by decide]; first | exact b2 | omega)) ?_
  refine ev_go 1 (pc1 := 47) (lv1 := [.ref 43, .retAddr 3, .int lo, .int hi, .int ot, .int z]) (st1 := [.ref 43]) (h1 := (124, I2, J2, R)) rfl ?_
  refine ev_gf (c := 43) (t := 1) (X := R 43 0) rfl rfl (fun _ => rfl) rfl (hG 43 0 1 rfl rfl) ?_
  refine ev_call (v1 := none) (h1 := (124, I3, J3, R)) rfl rfl c4 ?_
  refine ev_go 1 (pc1 := 55) (lv1 := [.ref 43, .retAddr 3, .int lo, .int hi, .int ot, .int z]) (st1 := [.int z]) (h1 := (124, I3, J3, R)) rfl ?_
  exact ev_ret rfl rfl
section RO4
variable {L : Nat} {xs : Nat → Int32} {d : Nat} {R : Nat → Nat → Nat} {b : Nat → Int32} {n p : Nat} {I : Nat → Nat → Int32} {J : Nat → Nat → Int64}
theorem ro_run_4 (hG : aGd R) (hn9 : n ≤ 900) (h0 : (I 43 2).toInt = 0) (hn : (I 1 1).toInt = n) (hp : (I 1 2).toInt = p) (hpn : p ≤ n) (hb : bX I n = b) (lo hi ot : Int32) : ∃ (st k e : Nat) (I' : Nat → Nat → Int32) (J' : Nat → Nat → Int64) (z : Int32), xEv L xs (d + 5) 31 0 [.ref 43, .retAddr 3, .int lo, .int hi, .int ot, xmk] [] (124, I, J, R) (some (.int z)) (124, I', J', R) ∧ isTok b p st k e ∧ e ≤ n ∧ alX I I' J J' ∧ ((¬ (cKd k (e - st) = 1 ∧ isKw b st (e - st) 4) ∧ z = ot ∧ (I' 43 2).toInt = 0 ∧ I' 43 3 = I 43 3 ∧ cTok b n I' J' st k e) ∨ ((cKd k (e - st) = 1 ∧ isKw b st (e - st) 4) ∧ ∃ st2 k2 e2, isTok b e st2 k2 e2 ∧ e2 ≤ n ∧ ((cKd k2 (e2 - st2) = 2 ∧ lo.toInt ≤ (vF b st2 (e2 - st2)).toInt ∧ (vF b st2 (e2 - st2)).toInt ≤ hi.toInt ∧ z = (vF b st2 (e2 - st2)).toInt32 ∧ (I' 43 2).toInt = 0 ∧ I' 43 3 = I 43 3 ∧ ∃ st3 k3 e3, isTok b e2 st3 k3 e3 ∧ cTok b n I' J' st3 k3 e3) ∨ (cKd k2 (e2 - st2) = 2 ∧ ¬ (lo.toInt ≤ (vF b st2 (e2 - st2)).toInt ∧ (vF b st2 (e2 - st2)).toInt ≤ hi.toInt) ∧ (I' 43 2).toInt = 2 ∧ (I' 43 3).toInt = st2) ∨ (cKd k2 (e2 - st2) ≠ 2 ∧ (I' 43 2).toInt = 1 ∧ (I' 43 3).toInt = st2)))) := by
  obtain ⟨st, k, e, I1, J1, c1, tk, a1, a2, a3, a4, a5, a6, a7, a8⟩ := ad_run (L := L) (xs := xs) (d := d + 3) (R := R) hG hn9 (J := J) hn hp hpn
  rw [hb] at tk a7
  have e43 : (I1 43 2).toInt = 0 := by rw [a8.1 43 2 (by omega)]; exact h0
  have e433 : I1 43 3 = I 43 3 := a8.1 43 3 (by omega)
  have e11 : (I1 1 1).toInt = n := by rw [a8.1 1 1 (by omega)]; exact hn
  have hb1 : bX I1 n = b := by rw [alT_b a8]; exact hb
  have ct : cTok b n I1 J1 st k e := ⟨e11, a4, a5, a6, a7, hb1, a2, a3⟩
  have iff : ((I1 1 3).toInt = 1 ∧ J1 1 5 = vF (kb 4) 0 (kwl 4)) ↔ (cKd k (e - st) = 1 ∧ isKw b st (e - st) 4) := by
    constructor
    · rintro ⟨g1, g2⟩
      have g3 : cKd k (e - st) = 1 := by omega
      obtain ⟨g4, g5⟩ := ck_1.mp g3
      subst g4
      rw [a7 (Or.inl rfl)] at g2
      exact ⟨g3, (kw_iff (by decide) g5 (tok_w tk).2).mp g2⟩
    · rintro ⟨g1, g2⟩
      obtain ⟨g4, g5⟩ := ck_1.mp g1
      subst g4
      exact ⟨by omega, by rw [a7 (Or.inl rfl)]; exact (kw_iff (by decide) g5 (tok_w tk).2).mpr g2⟩
  rcases iw_run_4 (L := L) (xs := xs) (d := d + 3) (I := I1) (J := J1) hG (by omega) with ⟨g1, g2, c2⟩ | ⟨g1, c2⟩
  · have gk := iff.mp ⟨g1, g2⟩
    obtain ⟨st2, k2, e2, I2, J2, z, c3, tk2, u1, u2, al2, hh⟩ := nu_run (L := L) (xs := xs) (d := d + 1) (R := R) (J := J1) hG hn9 e43 e11 a4 a2 hb1 lo hi
    rcases hh with ⟨h1, h2, h3, h4, h5, h6, h7⟩ | ⟨h1, h2, h3, h4⟩ | ⟨h1, h2, h3⟩
    · obtain ⟨st3, k3, e3, I3, J3, c4, tk3, b1, b2, b3, b4, b5, b6, b7, b8⟩ := ad_run (L := L) (xs := xs) (d := d + 3) (R := R) hG hn9 (J := J2) h6.1 h6.2.1 u2
      have ev : J2 1 5 = vF b st2 (e2 - st2) := h6.2.2.2.2.1 (Or.inr (ck_2.mp h1).1)
      have hb2 : bX I2 n = b := h6.2.2.2.2.2.1
      rw [hb2] at tk3 b7
      rw [ev] at h2 h3 h7
      refine ⟨st, k, e, I3, J3, z, ro_3_4 hG h0 c1 c2 c3 h4 c4, tk, a2, alX_t (alX_T a8) (alX_t al2 (alX_T b8)), Or.inr ⟨gk, st2, k2, e2, tk2, u2, Or.inl ⟨h1, h2, h3, h7, ?_, ?_, st3, k3, e3, tk3, ?_, b4, b5, b6, b7, by rw [alT_b b8]; exact hb2, b2, b3⟩⟩⟩
      · rw [b8.1 43 2 (by omega)]; exact h4
      · rw [b8.1 43 3 (by omega), h5]; exact e433
      · rw [b8.1 1 1 (by omega)]; exact h6.1
    · exact ⟨st, k, e, I2, J2, z, ro_2_4 hG h0 c1 c2 c3 (by omega), tk, a2, alX_t (alX_T a8) al2, Or.inr ⟨gk, st2, k2, e2, tk2, u2, Or.inr (Or.inl ⟨h1, h2, h3, h4⟩)⟩⟩
    · exact ⟨st, k, e, I2, J2, z, ro_2_4 hG h0 c1 c2 c3 (by omega), tk, a2, alX_t (alX_T a8) al2, Or.inr ⟨gk, st2, k2, e2, tk2, u2, Or.inr (Or.inr ⟨h1, h2, h3⟩)⟩⟩
  · exact ⟨st, k, e, I1, J1, ot, ro_1_4 hG h0 c1 c2, tk, a2, alX_T a8, Or.inl ⟨fun z => g1 (iff.mpr z), rfl, e43, e433, ct⟩⟩
theorem ro_dead_4 (hG : aGd R) (h0 : (I 43 2).toInt ≠ 0) (lo hi ot : Int32) : xEv L xs d 31 0 [.ref 43, .retAddr 3, .int lo, .int hi, .int ot, xmk] [] (124, I, J, R) (some (.int ot)) (124, I, J, R) := ro_d_4 hG h0
end RO4
set_option maxRecDepth 20000 in
theorem ro_d_5 {L : Nat} {xs : Nat → Int32} {d : Nat} {I : Nat → Nat → Int32} {J : Nat → Nat → Int64} {R : Nat → Nat → Nat} {lo hi ot : Int32} (hG : aGd R) (b1 : (I 43 2).toInt ≠ 0) : xEv L xs d 31 0 [.ref 43, .retAddr 5, .int lo, .int hi, .int ot, xmk] [] (124, I, J, R) (some (.int ot)) (124, I, J, R) := by
  refine ev_go 2 (pc1 := 4) (lv1 := [.ref 43, .retAddr 5, .int lo, .int hi, .int ot, xmk]) (st1 := [.int (I 43 2)]) (h1 := (124, I, J, R)) rfl ?_
  refine ev_br (b1 := false) rfl rfl (xcd_neq (x := (I 43 2)) (y := 0) (by rw [show ((0 : Int32)).toInt = 0 from by decide]; first | exact b1 | omega)) ?_
  refine ev_go 1 (pc1 := 9) (lv1 := [.ref 43, .retAddr 5, .int lo, .int hi, .int ot, xmk]) (st1 := [.int ot]) (h1 := (124, I, J, R)) rfl ?_
  exact ev_ret rfl rfl
set_option maxRecDepth 20000 in
theorem ro_1_5 {L : Nat} {xs : Nat → Int32} {d : Nat} {I : Nat → Nat → Int32} {J : Nat → Nat → Int64} {R : Nat → Nat → Nat} {I1 : Nat → Nat → Int32} {J1 : Nat → Nat → Int64} {lo hi ot : Int32} (hG : aGd R) (b1 : (I 43 2).toInt = 0) (c1 : xEv L xs d 21 0 [.ref 1] [] (124, I, J, R) none (124, I1, J1, R)) (c2 : xEv L xs d 25 0 [.ref 1, .retAddr 5, xmk, xmk, xmk] [] (124, I1, J1, R) (some (.int 0)) (124, I1, J1, R)) : xEv L xs (d + 1) 31 0 [.ref 43, .retAddr 5, .int lo, .int hi, .int ot, xmk] [] (124, I, J, R) (some (.int ot)) (124, I1, J1, R) := by
  refine ev_go 2 (pc1 := 4) (lv1 := [.ref 43, .retAddr 5, .int lo, .int hi, .int ot, xmk]) (st1 := [.int (I 43 2)]) (h1 := (124, I, J, R)) rfl ?_
  refine ev_br (b1 := true) rfl rfl (xcd_eq (x := (I 43 2)) (y := 0) (by rw [show ((0 : Int32)).toInt = 0 from by decide]; first | exact b1 | omega)) ?_
  refine ev_go 1 (pc1 := 11) (lv1 := [.ref 43, .retAddr 5, .int lo, .int hi, .int ot, xmk]) (st1 := [.ref 43]) (h1 := (124, I, J, R)) rfl ?_
  refine ev_gf (c := 43) (t := 1) (X := R 43 0) rfl rfl (fun _ => rfl) rfl (hG 43 0 1 rfl rfl) ?_
  refine ev_call (v1 := none) (h1 := (124, I1, J1, R)) rfl rfl c1 ?_
  refine ev_go 1 (pc1 := 18) (lv1 := [.ref 43, .retAddr 5, .int lo, .int hi, .int ot, xmk]) (st1 := [.ref 43]) (h1 := (124, I1, J1, R)) rfl ?_
  refine ev_gf (c := 43) (t := 1) (X := R 43 0) rfl rfl (fun _ => rfl) rfl (hG 43 0 1 rfl rfl) ?_
  refine ev_go 1 (pc1 := 22) (lv1 := [.ref 43, .retAddr 5, .int lo, .int hi, .int ot, xmk]) (st1 := [.retAddr 5, .ref 1]) (h1 := (124, I1, J1, R)) rfl ?_
  refine ev_call (v1 := (some (.int 0))) (h1 := (124, I1, J1, R)) rfl rfl c2 ?_
  refine ev_go 2 (pc1 := 30) (lv1 := [.ref 43, .retAddr 5, .int lo, .int hi, .int ot, xmk]) (st1 := [.int ot]) (h1 := (124, I1, J1, R)) rfl ?_
  exact ev_ret rfl rfl
set_option maxRecDepth 20000 in
theorem ro_2_5 {L : Nat} {xs : Nat → Int32} {d : Nat} {I : Nat → Nat → Int32} {J : Nat → Nat → Int64} {R : Nat → Nat → Nat} {I1 : Nat → Nat → Int32} {J1 : Nat → Nat → Int64} {I2 : Nat → Nat → Int32} {J2 : Nat → Nat → Int64} {lo hi ot z : Int32} (hG : aGd R) (b1 : (I 43 2).toInt = 0) (c1 : xEv L xs d 21 0 [.ref 1] [] (124, I, J, R) none (124, I1, J1, R)) (c2 : xEv L xs d 25 0 [.ref 1, .retAddr 5, xmk, xmk, xmk] [] (124, I1, J1, R) (some (.int 1)) (124, I1, J1, R)) (c3 : xEv L xs d 30 0 [.ref 43, .int lo, .int hi, xmk, xmk] [] (124, I1, J1, R) (some (.int z)) (124, I2, J2, R)) (b2 : (I2 43 2).toInt ≠ 0) : xEv L xs (d + 1) 31 0 [.ref 43, .retAddr 5, .int lo, .int hi, .int ot, xmk] [] (124, I, J, R) (some (.int z)) (124, I2, J2, R) := by
  refine ev_go 2 (pc1 := 4) (lv1 := [.ref 43, .retAddr 5, .int lo, .int hi, .int ot, xmk]) (st1 := [.int (I 43 2)]) (h1 := (124, I, J, R)) rfl ?_
  refine ev_br (b1 := true) rfl rfl (xcd_eq (x := (I 43 2)) (y := 0) (by rw [show ((0 : Int32)).toInt = 0 from by decide]; first | exact b1 | omega)) ?_
  refine ev_go 1 (pc1 := 11) (lv1 := [.ref 43, .retAddr 5, .int lo, .int hi, .int ot, xmk]) (st1 := [.ref 43]) (h1 := (124, I, J, R)) rfl ?_
  refine ev_gf (c := 43) (t := 1) (X := R 43 0) rfl rfl (fun _ => rfl) rfl (hG 43 0 1 rfl rfl) ?_
  refine ev_call (v1 := none) (h1 := (124, I1, J1, R)) rfl rfl c1 ?_
  refine ev_go 1 (pc1 := 18) (lv1 := [.ref 43, .retAddr 5, .int lo, .int hi, .int ot, xmk]) (st1 := [.ref 43]) (h1 := (124, I1, J1, R)) rfl ?_
  refine ev_gf (c := 43) (t := 1) (X := R 43 0) rfl rfl (fun _ => rfl) rfl (hG 43 0 1 rfl rfl) ?_
  refine ev_go 1 (pc1 := 22) (lv1 := [.ref 43, .retAddr 5, .int lo, .int hi, .int ot, xmk]) (st1 := [.retAddr 5, .ref 1]) (h1 := (124, I1, J1, R)) rfl ?_
  refine ev_call (v1 := (some (.int 1))) (h1 := (124, I1, J1, R)) rfl rfl c2 ?_
  refine ev_go 4 (pc1 := 34) (lv1 := [.ref 43, .retAddr 5, .int lo, .int hi, .int ot, xmk]) (st1 := [.int hi, .int lo, .ref 43]) (h1 := (124, I1, J1, R)) rfl ?_
  refine ev_call (v1 := (some (.int z))) (h1 := (124, I2, J2, R)) rfl rfl c3 ?_
  refine ev_go 3 (pc1 := 43) (lv1 := [.ref 43, .retAddr 5, .int lo, .int hi, .int ot, .int z]) (st1 := [.int (I2 43 2)]) (h1 := (124, I2, J2, R)) rfl ?_
  refine ev_br (b1 := true) rfl rfl (xcd_ne (x := (I2 43 2)) (y := 0) (by rw [show ((0 : Int32)).toInt = 0 from by decide]; first | exact b2 | omega)) ?_
  refine ev_go 1 (pc1 := 55) (lv1 := [.ref 43, .retAddr 5, .int lo, .int hi, .int ot, .int z]) (st1 := [.int z]) (h1 := (124, I2, J2, R)) rfl ?_
  exact ev_ret rfl rfl
set_option maxRecDepth 20000 in
theorem ro_3_5 {L : Nat} {xs : Nat → Int32} {d : Nat} {I : Nat → Nat → Int32} {J : Nat → Nat → Int64} {R : Nat → Nat → Nat} {I1 : Nat → Nat → Int32} {J1 : Nat → Nat → Int64} {I2 : Nat → Nat → Int32} {J2 : Nat → Nat → Int64} {I3 : Nat → Nat → Int32} {J3 : Nat → Nat → Int64} {lo hi ot z : Int32} (hG : aGd R) (b1 : (I 43 2).toInt = 0) (c1 : xEv L xs d 21 0 [.ref 1] [] (124, I, J, R) none (124, I1, J1, R)) (c2 : xEv L xs d 25 0 [.ref 1, .retAddr 5, xmk, xmk, xmk] [] (124, I1, J1, R) (some (.int 1)) (124, I1, J1, R)) (c3 : xEv L xs d 30 0 [.ref 43, .int lo, .int hi, xmk, xmk] [] (124, I1, J1, R) (some (.int z)) (124, I2, J2, R)) (b2 : (I2 43 2).toInt = 0) (c4 : xEv L xs d 21 0 [.ref 1] [] (124, I2, J2, R) none (124, I3, J3, R)) : xEv L xs (d + 1) 31 0 [.ref 43, .retAddr 5, .int lo, .int hi, .int ot, xmk] [] (124, I, J, R) (some (.int z)) (124, I3, J3, R) := by
  refine ev_go 2 (pc1 := 4) (lv1 := [.ref 43, .retAddr 5, .int lo, .int hi, .int ot, xmk]) (st1 := [.int (I 43 2)]) (h1 := (124, I, J, R)) rfl ?_
  refine ev_br (b1 := true) rfl rfl (xcd_eq (x := (I 43 2)) (y := 0) (by rw [show ((0 : Int32)).toInt = 0 from by decide]; first | exact b1 | omega)) ?_
  refine ev_go 1 (pc1 := 11) (lv1 := [.ref 43, .retAddr 5, .int lo, .int hi, .int ot, xmk]) (st1 := [.ref 43]) (h1 := (124, I, J, R)) rfl ?_
  refine ev_gf (c := 43) (t := 1) (X := R 43 0) rfl rfl (fun _ => rfl) rfl (hG 43 0 1 rfl rfl) ?_
  refine ev_call (v1 := none) (h1 := (124, I1, J1, R)) rfl rfl c1 ?_
  refine ev_go 1 (pc1 := 18) (lv1 := [.ref 43, .retAddr 5, .int lo, .int hi, .int ot, xmk]) (st1 := [.ref 43]) (h1 := (124, I1, J1, R)) rfl ?_
  refine ev_gf (c := 43) (t := 1) (X := R 43 0) rfl rfl (fun _ => rfl) rfl (hG 43 0 1 rfl rfl) ?_
  refine ev_go 1 (pc1 := 22) (lv1 := [.ref 43, .retAddr 5, .int lo, .int hi, .int ot, xmk]) (st1 := [.retAddr 5, .ref 1]) (h1 := (124, I1, J1, R)) rfl ?_
  refine ev_call (v1 := (some (.int 1))) (h1 := (124, I1, J1, R)) rfl rfl c2 ?_
  refine ev_go 4 (pc1 := 34) (lv1 := [.ref 43, .retAddr 5, .int lo, .int hi, .int ot, xmk]) (st1 := [.int hi, .int lo, .ref 43]) (h1 := (124, I1, J1, R)) rfl ?_
  refine ev_call (v1 := (some (.int z))) (h1 := (124, I2, J2, R)) rfl rfl c3 ?_
  refine ev_go 3 (pc1 := 43) (lv1 := [.ref 43, .retAddr 5, .int lo, .int hi, .int ot, .int z]) (st1 := [.int (I2 43 2)]) (h1 := (124, I2, J2, R)) rfl ?_
  refine ev_br (b1 := false) rfl rfl (xcd_nne (x := (I2 43 2)) (y := 0) (by rw [show ((0 : Int32)).toInt = 0 from by decide]; first | exact b2 | omega)) ?_
  refine ev_go 1 (pc1 := 47) (lv1 := [.ref 43, .retAddr 5, .int lo, .int hi, .int ot, .int z]) (st1 := [.ref 43]) (h1 := (124, I2, J2, R)) rfl ?_
  refine ev_gf (c := 43) (t := 1) (X := R 43 0) rfl rfl (fun _ => rfl) rfl (hG 43 0 1 rfl rfl) ?_
  refine ev_call (v1 := none) (h1 := (124, I3, J3, R)) rfl rfl c4 ?_
  refine ev_go 1 (pc1 := 55) (lv1 := [.ref 43, .retAddr 5, .int lo, .int hi, .int ot, .int z]) (st1 := [.int z]) (h1 := (124, I3, J3, R)) rfl ?_
  exact ev_ret rfl rfl
section RO5
variable {L : Nat} {xs : Nat → Int32} {d : Nat} {R : Nat → Nat → Nat} {b : Nat → Int32} {n p : Nat} {I : Nat → Nat → Int32} {J : Nat → Nat → Int64}
theorem ro_run_5 (hG : aGd R) (hn9 : n ≤ 900) (h0 : (I 43 2).toInt = 0) (hn : (I 1 1).toInt = n) (hp : (I 1 2).toInt = p) (hpn : p ≤ n) (hb : bX I n = b) (lo hi ot : Int32) : ∃ (st k e : Nat) (I' : Nat → Nat → Int32) (J' : Nat → Nat → Int64) (z : Int32), xEv L xs (d + 5) 31 0 [.ref 43, .retAddr 5, .int lo, .int hi, .int ot, xmk] [] (124, I, J, R) (some (.int z)) (124, I', J', R) ∧ isTok b p st k e ∧ e ≤ n ∧ alX I I' J J' ∧ ((¬ (cKd k (e - st) = 1 ∧ isKw b st (e - st) 5) ∧ z = ot ∧ (I' 43 2).toInt = 0 ∧ I' 43 3 = I 43 3 ∧ cTok b n I' J' st k e) ∨ ((cKd k (e - st) = 1 ∧ isKw b st (e - st) 5) ∧ ∃ st2 k2 e2, isTok b e st2 k2 e2 ∧ e2 ≤ n ∧ ((cKd k2 (e2 - st2) = 2 ∧ lo.toInt ≤ (vF b st2 (e2 - st2)).toInt ∧ (vF b st2 (e2 - st2)).toInt ≤ hi.toInt ∧ z = (vF b st2 (e2 - st2)).toInt32 ∧ (I' 43 2).toInt = 0 ∧ I' 43 3 = I 43 3 ∧ ∃ st3 k3 e3, isTok b e2 st3 k3 e3 ∧ cTok b n I' J' st3 k3 e3) ∨ (cKd k2 (e2 - st2) = 2 ∧ ¬ (lo.toInt ≤ (vF b st2 (e2 - st2)).toInt ∧ (vF b st2 (e2 - st2)).toInt ≤ hi.toInt) ∧ (I' 43 2).toInt = 2 ∧ (I' 43 3).toInt = st2) ∨ (cKd k2 (e2 - st2) ≠ 2 ∧ (I' 43 2).toInt = 1 ∧ (I' 43 3).toInt = st2)))) := by
  obtain ⟨st, k, e, I1, J1, c1, tk, a1, a2, a3, a4, a5, a6, a7, a8⟩ := ad_run (L := L) (xs := xs) (d := d + 3) (R := R) hG hn9 (J := J) hn hp hpn
  rw [hb] at tk a7
  have e43 : (I1 43 2).toInt = 0 := by rw [a8.1 43 2 (by omega)]; exact h0
  have e433 : I1 43 3 = I 43 3 := a8.1 43 3 (by omega)
  have e11 : (I1 1 1).toInt = n := by rw [a8.1 1 1 (by omega)]; exact hn
  have hb1 : bX I1 n = b := by rw [alT_b a8]; exact hb
  have ct : cTok b n I1 J1 st k e := ⟨e11, a4, a5, a6, a7, hb1, a2, a3⟩
  have iff : ((I1 1 3).toInt = 1 ∧ J1 1 5 = vF (kb 5) 0 (kwl 5)) ↔ (cKd k (e - st) = 1 ∧ isKw b st (e - st) 5) := by
    constructor
    · rintro ⟨g1, g2⟩
      have g3 : cKd k (e - st) = 1 := by omega
      obtain ⟨g4, g5⟩ := ck_1.mp g3
      subst g4
      rw [a7 (Or.inl rfl)] at g2
      exact ⟨g3, (kw_iff (by decide) g5 (tok_w tk).2).mp g2⟩
    · rintro ⟨g1, g2⟩
      obtain ⟨g4, g5⟩ := ck_1.mp g1
      subst g4
      exact ⟨by omega, by rw [a7 (Or.inl rfl)]; exact (kw_iff (by decide) g5 (tok_w tk).2).mpr g2⟩
  rcases iw_run_5 (L := L) (xs := xs) (d := d + 3) (I := I1) (J := J1) hG (by omega) with ⟨g1, g2, c2⟩ | ⟨g1, c2⟩
  · have gk := iff.mp ⟨g1, g2⟩
    obtain ⟨st2, k2, e2, I2, J2, z, c3, tk2, u1, u2, al2, hh⟩ := nu_run (L := L) (xs := xs) (d := d + 1) (R := R) (J := J1) hG hn9 e43 e11 a4 a2 hb1 lo hi
    rcases hh with ⟨h1, h2, h3, h4, h5, h6, h7⟩ | ⟨h1, h2, h3, h4⟩ | ⟨h1, h2, h3⟩
    · obtain ⟨st3, k3, e3, I3, J3, c4, tk3, b1, b2, b3, b4, b5, b6, b7, b8⟩ := ad_run (L := L) (xs := xs) (d := d + 3) (R := R) hG hn9 (J := J2) h6.1 h6.2.1 u2
      have ev : J2 1 5 = vF b st2 (e2 - st2) := h6.2.2.2.2.1 (Or.inr (ck_2.mp h1).1)
      have hb2 : bX I2 n = b := h6.2.2.2.2.2.1
      rw [hb2] at tk3 b7
      rw [ev] at h2 h3 h7
      refine ⟨st, k, e, I3, J3, z, ro_3_5 hG h0 c1 c2 c3 h4 c4, tk, a2, alX_t (alX_T a8) (alX_t al2 (alX_T b8)), Or.inr ⟨gk, st2, k2, e2, tk2, u2, Or.inl ⟨h1, h2, h3, h7, ?_, ?_, st3, k3, e3, tk3, ?_, b4, b5, b6, b7, by rw [alT_b b8]; exact hb2, b2, b3⟩⟩⟩
      · rw [b8.1 43 2 (by omega)]; exact h4
      · rw [b8.1 43 3 (by omega), h5]; exact e433
      · rw [b8.1 1 1 (by omega)]; exact h6.1
    · exact ⟨st, k, e, I2, J2, z, ro_2_5 hG h0 c1 c2 c3 (by omega), tk, a2, alX_t (alX_T a8) al2, Or.inr ⟨gk, st2, k2, e2, tk2, u2, Or.inr (Or.inl ⟨h1, h2, h3, h4⟩)⟩⟩
    · exact ⟨st, k, e, I2, J2, z, ro_2_5 hG h0 c1 c2 c3 (by omega), tk, a2, alX_t (alX_T a8) al2, Or.inr ⟨gk, st2, k2, e2, tk2, u2, Or.inr (Or.inr ⟨h1, h2, h3⟩)⟩⟩
  · exact ⟨st, k, e, I1, J1, ot, ro_1_5 hG h0 c1 c2, tk, a2, alX_T a8, Or.inl ⟨fun z => g1 (iff.mpr z), rfl, e43, e433, ct⟩⟩
theorem ro_dead_5 (hG : aGd R) (h0 : (I 43 2).toInt ≠ 0) (lo hi ot : Int32) : xEv L xs d 31 0 [.ref 43, .retAddr 5, .int lo, .int hi, .int ot, xmk] [] (124, I, J, R) (some (.int ot)) (124, I, J, R) := ro_d_5 hG h0
end RO5
