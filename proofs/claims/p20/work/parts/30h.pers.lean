/-- the village in the making: class and reference -/
def PR_3 (b : Nat → Int32) (np nm nn : Nat) (Ic : Nat → Nat → Int32) (Jc : Nat → Nat → Int64) (Ir : Nat → Nat → Int32) (Jr : Nat → Nat → Int64) : Prop :=
  (np ≤ 7 ∧ nm ≤ 16 ∧ nn ≤ 4) ∧ ((Ic 3 14).toInt = np ∧ (Ir 88 3).toInt = np) ∧ ((Ic 3 15).toInt = nm ∧ (Ir 88 4).toInt = nm) ∧ ((Ic 3 16).toInt = nn ∧ (Ir 88 5).toInt = nn) ∧
  (∀ i, i < np → Ic 5 i = Ir 90 (7 + i) ∧ Ic 6 i = Ir 91 (7 + i) ∧ 1 ≤ (Ic 5 i).toInt ∧ ∃ st m, 1 ≤ m ∧ m ≤ 8 ∧ isLt b st m ∧ Jc 4 i = vF b st m ∧ Jr 89 i = wF b st m) ∧
  (∀ i, i < nm → Ic 7 i = Ir 92 (16 + i) ∧ Ic 8 i = Ir 93 (16 + i) ∧ Ic 9 i = Ir 94 (16 + i) ∧ Ic 10 i = Ir 95 (16 + i)) ∧
  (∀ i, i < nn → Ic 11 i = Ir 96 (4 + i) ∧ Ic 12 i = Ir 97 (4 + i) ∧ Ic 13 i = Ir 98 (4 + i) ∧ Ic 14 i = Ir 99 (4 + i) ∧ Ic 15 i = Ir 100 (4 + i)) ∧
  (∀ i, i < nn → 0 ≤ (Ic 11 i).toInt ∧ (Ic 11 i).toInt < np) ∧
  (∀ q : Nat, q < np → (cIn (fun i => (Ic 11 i).toInt) (q : Int) nn : Int) ≤ (Ic 5 q).toInt) ∧
  ((∀ i, i < nm → 0 ≤ (Ic 7 i).toInt ∧ (Ic 7 i).toInt < np ∧ 0 ≤ (Ic 8 i).toInt ∧ (Ic 8 i).toInt < np ∧ (Ic 7 i).toInt ≠ (Ic 8 i).toInt) ∧ (∀ i, i < nn → 0 ≤ (Ic 12 i).toInt ∧ (Ic 12 i).toInt < np ∧ (Ic 11 i).toInt ≠ (Ic 12 i).toInt))
theorem PR_x_3 {b : Nat → Int32} {np nm nn : Nat} {Ic Ic' Ir : Nat → Nat → Int32} {Jc Jc' Jr : Nat → Nat → Int64} (h : PR_3 b np nm nn Ic Jc Ir Jr) (al : alX Ic Ic' Jc Jc') : PR_3 b np nm nn Ic' Jc' Ir Jr := by
  have e : ∀ c q, (3 ≤ c ∧ c ≤ 17) → Ic' c q = Ic c q := fun c q hc => al.1 c q (by omega) (by omega)
  have e0 : ∀ c, (3 ≤ c ∧ c ≤ 17) → Ic' c = Ic c := fun c hc => funext fun q => e c q hc
  have ej : Jc' 4 = Jc 4 := funext fun q => al.2 4 q (by omega)
  unfold PR_3 at h ⊢
  rw [e0 3 (by decide), e0 5 (by decide), e0 6 (by decide), e0 7 (by decide), e0 8 (by decide), e0 9 (by decide), e0 10 (by decide), e0 11 (by decide), e0 12 (by decide), e0 13 (by decide), e0 14 (by decide), e0 15 (by decide), ej]
  exact h
theorem PR_m_3 {b : Nat → Int32} {np nm nn : Nat} {Ic Ir Ir' : Nat → Nat → Int32} {Jc Jr Jr' : Nat → Nat → Int64} (h : PR_3 b np nm nn Ic Jc Ir Jr) (al : alM Ir Ir' Jr Jr') : PR_3 b np nm nn Ic Jc Ir' Jr' := by
  have e0 : ∀ c, c ≠ 86 → Ir' c = Ir c := fun c hc => funext fun q => al.1 c q (by omega)
  have ej : Jr' 89 = Jr 89 := funext fun q => al.2 89 q (by omega)
  unfold PR_3 at h ⊢
  rw [e0 88 (by decide), e0 90 (by decide), e0 91 (by decide), e0 92 (by decide), e0 93 (by decide), e0 94 (by decide), e0 95 (by decide), e0 96 (by decide), e0 97 (by decide), e0 98 (by decide), e0 99 (by decide), e0 100 (by decide), ej]
  exact h
set_option maxRecDepth 20000 in
theorem rpD60_3 {L : Nat} {xs : Nat → Int32} {d : Nat} {I : Nat → Nat → Int32} {J : Nat → Nat → Int64} {R : Nat → Nat → Nat} {u1 u2 u3 u4 : Value} (hG : aGd R) (b1 : (I 43 2).toInt ≠ 0) : xEv L xs d 26 60 [.ref 43, u1, u2, u3, u4] [] (124, I, J, R) none (124, I, J, R) := by
  refine ev_go 2 (pc1 := 64) (lv1 := [.ref 43, u1, u2, u3, u4]) (st1 := [.int (I 43 2)]) (h1 := (124, I, J, R)) rfl ?_
  refine ev_br (b1 := true) rfl rfl (xcd_ne (x := (I 43 2)) (y := 0) (by rw [show ((0 : Int32)).toInt = 0 from by decide]; first | exact b1 | omega)) ?_
  exact ev_ret rfl rfl
set_option maxRecDepth 20000 in
theorem rpD47_3 {L : Nat} {xs : Nat → Int32} {d : Nat} {I : Nat → Nat → Int32} {J : Nat → Nat → Int64} {R : Nat → Nat → Nat} {y z : Int32} {u4 : Value} {vv : Int64} (hG : aGd R) (c1 : xEv L xs d 31 0 [.ref 43, .retAddr 3, .int 0, .int 500, .int 0, xmk] [] (124, I, J, R) (some (.int z)) (124, I, J, R)) (b1 : (I 43 2).toInt ≠ 0) : xEv L xs (d + 1) 26 47 [.ref 43, .long vv, xmk, .int y, u4] [] (124, I, J, R) none (124, I, J, R) := by
  refine ev_go 5 (pc1 := 55) (lv1 := [.ref 43, .long vv, xmk, .int y, u4]) (st1 := [.int 0, .int 500, .int 0, .retAddr 3, .ref 43]) (h1 := (124, I, J, R)) rfl ?_
  refine ev_call (v1 := (some (.int z))) (h1 := (124, I, J, R)) rfl rfl c1 ?_
  refine ev_go 3 (pc1 := 64) (lv1 := [.ref 43, .long vv, xmk, .int y, .int z]) (st1 := [.int (I 43 2)]) (h1 := (124, I, J, R)) rfl ?_
  refine ev_br (b1 := true) rfl rfl (xcd_ne (x := (I 43 2)) (y := 0) (by rw [show ((0 : Int32)).toInt = 0 from by decide]; first | exact b1 | omega)) ?_
  exact ev_ret rfl rfl
set_option maxRecDepth 20000 in
theorem rpD40_3 {L : Nat} {xs : Nat → Int32} {d : Nat} {I : Nat → Nat → Int32} {J : Nat → Nat → Int64} {R : Nat → Nat → Nat} {y : Int32} {u3 u4 : Value} {vv : Int64} (hG : aGd R) (c1 : xEv L xs d 30 0 [.ref 43, .int 1, .int 3, xmk, xmk] [] (124, I, J, R) (some (.int y)) (124, I, J, R)) {v : Option Value} {h' : xH} (hk : xEv L xs (d + 1) 26 47 [.ref 43, .long vv, xmk, .int y, u4] [] (124, I, J, R) v h') : xEv L xs (d + 1) 26 40 [.ref 43, .long vv, xmk, u3, u4] [] (124, I, J, R) v h' := by
  refine ev_go 3 (pc1 := 43) (lv1 := [.ref 43, .long vv, xmk, u3, u4]) (st1 := [.int 3, .int 1, .ref 43]) (h1 := (124, I, J, R)) rfl ?_
  refine ev_call (v1 := (some (.int y))) (h1 := (124, I, J, R)) rfl rfl c1 ?_
  refine ev_go 1 (pc1 := 47) (lv1 := [.ref 43, .long vv, xmk, .int y, u4]) (st1 := []) (h1 := (124, I, J, R)) rfl ?_
  exact hk
set_option maxRecDepth 20000 in
theorem rpD23a_3 {L : Nat} {xs : Nat → Int32} {d : Nat} {I : Nat → Nat → Int32} {J : Nat → Nat → Int64} {R : Nat → Nat → Nat} {z : Int32} {u3 u4 : Value} {vv : Int64} (hG : aGd R) (r_R_43_1 : R 43 1 = 4) (c1 : xEv L xs d 29 0 [.ref 3, .long vv, xmk, xmk] [] (124, I, J, R) (some (.int z)) (124, I, J, R)) (b1 : z.toInt = -1) {v : Option Value} {h' : xH} (hk : xEv L xs (d + 1) 26 40 [.ref 43, .long vv, xmk, u3, u4] [] (124, I, J, R) v h') : xEv L xs (d + 1) 26 23 [.ref 43, .long vv, xmk, u3, u4] [] (124, I, J, R) v h' := by
  refine ev_go 1 (pc1 := 24) (lv1 := [.ref 43, .long vv, xmk, u3, u4]) (st1 := [.ref 43]) (h1 := (124, I, J, R)) rfl ?_
  refine ev_gf (c := 43) (t := 3) (X := R 43 1) rfl rfl (fun _ => rfl) rfl r_R_43_1 ?_
  refine ev_go 1 (pc1 := 28) (lv1 := [.ref 43, .long vv, xmk, u3, u4]) (st1 := [.long vv, .ref 3]) (h1 := (124, I, J, R)) rfl ?_
  refine ev_call (v1 := (some (.int z))) (h1 := (124, I, J, R)) rfl rfl c1 ?_
  refine ev_go 1 (pc1 := 32) (lv1 := [.ref 43, .long vv, xmk, u3, u4]) (st1 := [.int (-1), .int z]) (h1 := (124, I, J, R)) rfl ?_
  refine ev_br (b1 := true) rfl rfl (xcd_eq (x := z) (y := (-1)) (by rw [show ((-1 : Int32)).toInt = -1 from by decide]; first | exact b1 | omega)) ?_
  exact hk
set_option maxRecDepth 20000 in
theorem rpD23b_3 {L : Nat} {xs : Nat → Int32} {d : Nat} {I : Nat → Nat → Int32} {J : Nat → Nat → Int64} {R : Nat → Nat → Nat} {z : Int32} {u3 u4 : Value} {vv : Int64} (hG : aGd R) (r_R_43_1 : R 43 1 = 4) (c1 : xEv L xs d 29 0 [.ref 3, .long vv, xmk, xmk] [] (124, I, J, R) (some (.int z)) (124, I, J, R)) (b1 : z.toInt ≠ -1) (c2 : xEv L xs d 27 0 [.ref 43, .int 3] [] (124, I, J, R) none (124, I, J, R)) {v : Option Value} {h' : xH} (hk : xEv L xs (d + 1) 26 40 [.ref 43, .long vv, xmk, u3, u4] [] (124, I, J, R) v h') : xEv L xs (d + 1) 26 23 [.ref 43, .long vv, xmk, u3, u4] [] (124, I, J, R) v h' := by
  refine ev_go 1 (pc1 := 24) (lv1 := [.ref 43, .long vv, xmk, u3, u4]) (st1 := [.ref 43]) (h1 := (124, I, J, R)) rfl ?_
  refine ev_gf (c := 43) (t := 3) (X := R 43 1) rfl rfl (fun _ => rfl) rfl r_R_43_1 ?_
  refine ev_go 1 (pc1 := 28) (lv1 := [.ref 43, .long vv, xmk, u3, u4]) (st1 := [.long vv, .ref 3]) (h1 := (124, I, J, R)) rfl ?_
  refine ev_call (v1 := (some (.int z))) (h1 := (124, I, J, R)) rfl rfl c1 ?_
  refine ev_go 1 (pc1 := 32) (lv1 := [.ref 43, .long vv, xmk, u3, u4]) (st1 := [.int (-1), .int z]) (h1 := (124, I, J, R)) rfl ?_
  refine ev_br (b1 := false) rfl rfl (xcd_neq (x := z) (y := (-1)) (by rw [show ((-1 : Int32)).toInt = -1 from by decide]; first | exact b1 | omega)) ?_
  refine ev_go 2 (pc1 := 37) (lv1 := [.ref 43, .long vv, xmk, u3, u4]) (st1 := [.int 3, .ref 43]) (h1 := (124, I, J, R)) rfl ?_
  refine ev_call (v1 := none) (h1 := (124, I, J, R)) rfl rfl c2 ?_
  exact hk
set_option maxRecDepth 20000 in
theorem rpD17_3 {L : Nat} {xs : Nat → Int32} {d : Nat} {I : Nat → Nat → Int32} {J : Nat → Nat → Int64} {R : Nat → Nat → Nat} {u1 u2 u3 u4 : Value} {vv : Int64} (hG : aGd R) (c1 : xEv L xs d 28 0 [.ref 43, .int 1] [] (124, I, J, R) (some (.long vv)) (124, I, J, R)) {v : Option Value} {h' : xH} (hk : xEv L xs (d + 1) 26 23 [.ref 43, .long vv, xmk, u3, u4] [] (124, I, J, R) v h') : xEv L xs (d + 1) 26 17 [.ref 43, u1, u2, u3, u4] [] (124, I, J, R) v h' := by
  refine ev_go 2 (pc1 := 19) (lv1 := [.ref 43, u1, u2, u3, u4]) (st1 := [.int 1, .ref 43]) (h1 := (124, I, J, R)) rfl ?_
  refine ev_call (v1 := (some (.long vv))) (h1 := (124, I, J, R)) rfl rfl c1 ?_
  refine ev_go 1 (pc1 := 23) (lv1 := [.ref 43, .long vv, xmk, u3, u4]) (st1 := []) (h1 := (124, I, J, R)) rfl ?_
  exact hk
set_option maxRecDepth 20000 in
theorem rpA0_3 {L : Nat} {xs : Nat → Int32} {d : Nat} {I : Nat → Nat → Int32} {J : Nat → Nat → Int64} {R : Nat → Nat → Nat} (hG : aGd R) (r_R_43_1 : R 43 1 = 4) (b1 : (I 3 14).toInt < 7) {v : Option Value} {h' : xH} (hk : xEv L xs d 26 17 [.ref 43, xmk, xmk, xmk, xmk] [] (124, I, J, R) v h') : xEv L xs d 26 0 [.ref 43, xmk, xmk, xmk, xmk] [] (124, I, J, R) v h' := by
  refine ev_go 1 (pc1 := 1) (lv1 := [.ref 43, xmk, xmk, xmk, xmk]) (st1 := [.ref 43]) (h1 := (124, I, J, R)) rfl ?_
  refine ev_gf (c := 43) (t := 3) (X := R 43 1) rfl rfl (fun _ => rfl) rfl r_R_43_1 ?_
  refine ev_go 2 (pc1 := 9) (lv1 := [.ref 43, xmk, xmk, xmk, xmk]) (st1 := [.int 7, .int (I 3 14)]) (h1 := (124, I, J, R)) rfl ?_
  refine ev_br (b1 := true) rfl rfl (xcd_lt (x := (I 3 14)) (y := 7) (by rw [show ((7 : Int32)).toInt = 7 from by decide]; first | exact b1 | omega)) ?_
  exact hk
set_option maxRecDepth 20000 in
theorem rpA0f_3 {L : Nat} {xs : Nat → Int32} {d : Nat} {I : Nat → Nat → Int32} {J : Nat → Nat → Int64} {R : Nat → Nat → Nat} (hG : aGd R) (r_R_43_1 : R 43 1 = 4) (b1 : (I 3 14).toInt ≥ 7) (c1 : xEv L xs d 27 0 [.ref 43, .int 4] [] (124, I, J, R) none (124, (uI (uI I 43 2 4) 43 3 (I 1 4)), J, R)) {v : Option Value} {h' : xH} (hk : xEv L xs (d + 1) 26 17 [.ref 43, xmk, xmk, xmk, xmk] [] (124, (uI (uI I 43 2 4) 43 3 (I 1 4)), J, R) v h') : xEv L xs (d + 1) 26 0 [.ref 43, xmk, xmk, xmk, xmk] [] (124, I, J, R) v h' := by
  refine ev_go 1 (pc1 := 1) (lv1 := [.ref 43, xmk, xmk, xmk, xmk]) (st1 := [.ref 43]) (h1 := (124, I, J, R)) rfl ?_
  refine ev_gf (c := 43) (t := 3) (X := R 43 1) rfl rfl (fun _ => rfl) rfl r_R_43_1 ?_
  refine ev_go 2 (pc1 := 9) (lv1 := [.ref 43, xmk, xmk, xmk, xmk]) (st1 := [.int 7, .int (I 3 14)]) (h1 := (124, I, J, R)) rfl ?_
  refine ev_br (b1 := false) rfl rfl (xcd_nlt (x := (I 3 14)) (y := 7) (by rw [show ((7 : Int32)).toInt = 7 from by decide]; first | exact b1 | omega)) ?_
  refine ev_go 2 (pc1 := 14) (lv1 := [.ref 43, xmk, xmk, xmk, xmk]) (st1 := [.int 4, .ref 43]) (h1 := (124, I, J, R)) rfl ?_
  refine ev_call (v1 := none) (h1 := (124, (uI (uI I 43 2 4) 43 3 (I 1 4)), J, R)) rfl rfl c1 ?_
  exact hk
set_option maxRecDepth 20000 in
theorem rpA17_3 {L : Nat} {xs : Nat → Int32} {d : Nat} {I : Nat → Nat → Int32} {J : Nat → Nat → Int64} {R : Nat → Nat → Nat} {I1 : Nat → Nat → Int32} {J1 : Nat → Nat → Int64} {vv : Int64} (hG : aGd R) (c1 : xEv L xs d 28 0 [.ref 43, .int 1] [] (124, I, J, R) (some (.long vv)) (124, I1, J1, R)) {v : Option Value} {h' : xH} (hk : xEv L xs (d + 1) 26 23 [.ref 43, .long vv, xmk, xmk, xmk] [] (124, I1, J1, R) v h') : xEv L xs (d + 1) 26 17 [.ref 43, xmk, xmk, xmk, xmk] [] (124, I, J, R) v h' := by
  refine ev_go 2 (pc1 := 19) (lv1 := [.ref 43, xmk, xmk, xmk, xmk]) (st1 := [.int 1, .ref 43]) (h1 := (124, I, J, R)) rfl ?_
  refine ev_call (v1 := (some (.long vv))) (h1 := (124, I1, J1, R)) rfl rfl c1 ?_
  refine ev_go 1 (pc1 := 23) (lv1 := [.ref 43, .long vv, xmk, xmk, xmk]) (st1 := []) (h1 := (124, I1, J1, R)) rfl ?_
  exact hk
set_option maxRecDepth 20000 in
theorem rpA23_3 {L : Nat} {xs : Nat → Int32} {d : Nat} {I : Nat → Nat → Int32} {J : Nat → Nat → Int64} {R : Nat → Nat → Nat} {z : Int32} {vv : Int64} (hG : aGd R) (r_R_43_1 : R 43 1 = 4) (c1 : xEv L xs d 29 0 [.ref 3, .long vv, xmk, xmk] [] (124, I, J, R) (some (.int z)) (124, I, J, R)) (b1 : z.toInt = -1) {v : Option Value} {h' : xH} (hk : xEv L xs (d + 1) 26 40 [.ref 43, .long vv, xmk, xmk, xmk] [] (124, I, J, R) v h') : xEv L xs (d + 1) 26 23 [.ref 43, .long vv, xmk, xmk, xmk] [] (124, I, J, R) v h' := by
  refine ev_go 1 (pc1 := 24) (lv1 := [.ref 43, .long vv, xmk, xmk, xmk]) (st1 := [.ref 43]) (h1 := (124, I, J, R)) rfl ?_
  refine ev_gf (c := 43) (t := 3) (X := R 43 1) rfl rfl (fun _ => rfl) rfl r_R_43_1 ?_
  refine ev_go 1 (pc1 := 28) (lv1 := [.ref 43, .long vv, xmk, xmk, xmk]) (st1 := [.long vv, .ref 3]) (h1 := (124, I, J, R)) rfl ?_
  refine ev_call (v1 := (some (.int z))) (h1 := (124, I, J, R)) rfl rfl c1 ?_
  refine ev_go 1 (pc1 := 32) (lv1 := [.ref 43, .long vv, xmk, xmk, xmk]) (st1 := [.int (-1), .int z]) (h1 := (124, I, J, R)) rfl ?_
  refine ev_br (b1 := true) rfl rfl (xcd_eq (x := z) (y := (-1)) (by rw [show ((-1 : Int32)).toInt = -1 from by decide]; first | exact b1 | omega)) ?_
  exact hk
set_option maxRecDepth 20000 in
theorem rpA23f_3 {L : Nat} {xs : Nat → Int32} {d : Nat} {I : Nat → Nat → Int32} {J : Nat → Nat → Int64} {R : Nat → Nat → Nat} {z : Int32} {vv : Int64} (hG : aGd R) (r_R_43_1 : R 43 1 = 4) (c1 : xEv L xs d 29 0 [.ref 3, .long vv, xmk, xmk] [] (124, I, J, R) (some (.int z)) (124, I, J, R)) (b1 : z.toInt ≠ -1) (c2 : xEv L xs d 27 0 [.ref 43, .int 3] [] (124, I, J, R) none (124, (uI (uI I 43 2 3) 43 3 (I 1 4)), J, R)) {v : Option Value} {h' : xH} (hk : xEv L xs (d + 1) 26 40 [.ref 43, .long vv, xmk, xmk, xmk] [] (124, (uI (uI I 43 2 3) 43 3 (I 1 4)), J, R) v h') : xEv L xs (d + 1) 26 23 [.ref 43, .long vv, xmk, xmk, xmk] [] (124, I, J, R) v h' := by
  refine ev_go 1 (pc1 := 24) (lv1 := [.ref 43, .long vv, xmk, xmk, xmk]) (st1 := [.ref 43]) (h1 := (124, I, J, R)) rfl ?_
  refine ev_gf (c := 43) (t := 3) (X := R 43 1) rfl rfl (fun _ => rfl) rfl r_R_43_1 ?_
  refine ev_go 1 (pc1 := 28) (lv1 := [.ref 43, .long vv, xmk, xmk, xmk]) (st1 := [.long vv, .ref 3]) (h1 := (124, I, J, R)) rfl ?_
  refine ev_call (v1 := (some (.int z))) (h1 := (124, I, J, R)) rfl rfl c1 ?_
  refine ev_go 1 (pc1 := 32) (lv1 := [.ref 43, .long vv, xmk, xmk, xmk]) (st1 := [.int (-1), .int z]) (h1 := (124, I, J, R)) rfl ?_
  refine ev_br (b1 := false) rfl rfl (xcd_neq (x := z) (y := (-1)) (by rw [show ((-1 : Int32)).toInt = -1 from by decide]; first | exact b1 | omega)) ?_
  refine ev_go 2 (pc1 := 37) (lv1 := [.ref 43, .long vv, xmk, xmk, xmk]) (st1 := [.int 3, .ref 43]) (h1 := (124, I, J, R)) rfl ?_
  refine ev_call (v1 := none) (h1 := (124, (uI (uI I 43 2 3) 43 3 (I 1 4)), J, R)) rfl rfl c2 ?_
  exact hk
set_option maxRecDepth 20000 in
theorem rpA40_3 {L : Nat} {xs : Nat → Int32} {d : Nat} {I : Nat → Nat → Int32} {J : Nat → Nat → Int64} {R : Nat → Nat → Nat} {I1 : Nat → Nat → Int32} {J1 : Nat → Nat → Int64} {y : Int32} {vv : Int64} (hG : aGd R) (c1 : xEv L xs d 30 0 [.ref 43, .int 1, .int 3, xmk, xmk] [] (124, I, J, R) (some (.int y)) (124, I1, J1, R)) {v : Option Value} {h' : xH} (hk : xEv L xs (d + 1) 26 47 [.ref 43, .long vv, xmk, .int y, xmk] [] (124, I1, J1, R) v h') : xEv L xs (d + 1) 26 40 [.ref 43, .long vv, xmk, xmk, xmk] [] (124, I, J, R) v h' := by
  refine ev_go 3 (pc1 := 43) (lv1 := [.ref 43, .long vv, xmk, xmk, xmk]) (st1 := [.int 3, .int 1, .ref 43]) (h1 := (124, I, J, R)) rfl ?_
  refine ev_call (v1 := (some (.int y))) (h1 := (124, I1, J1, R)) rfl rfl c1 ?_
  refine ev_go 1 (pc1 := 47) (lv1 := [.ref 43, .long vv, xmk, .int y, xmk]) (st1 := []) (h1 := (124, I1, J1, R)) rfl ?_
  exact hk
set_option maxRecDepth 20000 in
theorem rpA47_3 {L : Nat} {xs : Nat → Int32} {d : Nat} {I : Nat → Nat → Int32} {J : Nat → Nat → Int64} {R : Nat → Nat → Nat} {I1 : Nat → Nat → Int32} {J1 : Nat → Nat → Int64} {y x : Int32} {vv : Int64} (hG : aGd R) (c1 : xEv L xs d 31 0 [.ref 43, .retAddr 3, .int 0, .int 500, .int 0, xmk] [] (124, I, J, R) (some (.int x)) (124, I1, J1, R)) {v : Option Value} {h' : xH} (hk : xEv L xs (d + 1) 26 60 [.ref 43, .long vv, xmk, .int y, .int x] [] (124, I1, J1, R) v h') : xEv L xs (d + 1) 26 47 [.ref 43, .long vv, xmk, .int y, xmk] [] (124, I, J, R) v h' := by
  refine ev_go 5 (pc1 := 55) (lv1 := [.ref 43, .long vv, xmk, .int y, xmk]) (st1 := [.int 0, .int 500, .int 0, .retAddr 3, .ref 43]) (h1 := (124, I, J, R)) rfl ?_
  refine ev_call (v1 := (some (.int x))) (h1 := (124, I1, J1, R)) rfl rfl c1 ?_
  refine ev_go 1 (pc1 := 60) (lv1 := [.ref 43, .long vv, xmk, .int y, .int x]) (st1 := []) (h1 := (124, I1, J1, R)) rfl ?_
  exact hk
set_option maxRecDepth 20000 in
theorem rpA60_3 {L : Nat} {xs : Nat → Int32} {d : Nat} {I : Nat → Nat → Int32} {J : Nat → Nat → Int64} {R : Nat → Nat → Nat} {I1 : Nat → Nat → Int32} {J1 : Nat → Nat → Int64} {y x : Int32} {vv : Int64} (hG : aGd R) (b1 : (I 43 2).toInt = 0) (r_R_43_1 : R 43 1 = 4) (c1 : xEv L xs d 32 0 [.ref 3, .long vv, xmk, .int y, .int x] [] (124, I, J, R) none (124, I1, J1, R)) : xEv L xs (d + 1) 26 60 [.ref 43, .long vv, xmk, .int y, .int x] [] (124, I, J, R) none (124, I1, J1, R) := by
  refine ev_go 2 (pc1 := 64) (lv1 := [.ref 43, .long vv, xmk, .int y, .int x]) (st1 := [.int (I 43 2)]) (h1 := (124, I, J, R)) rfl ?_
  refine ev_br (b1 := false) rfl rfl (xcd_nne (x := (I 43 2)) (y := 0) (by rw [show ((0 : Int32)).toInt = 0 from by decide]; first | exact b1 | omega)) ?_
  refine ev_go 1 (pc1 := 68) (lv1 := [.ref 43, .long vv, xmk, .int y, .int x]) (st1 := [.ref 43]) (h1 := (124, I, J, R)) rfl ?_
  refine ev_gf (c := 43) (t := 3) (X := R 43 1) rfl rfl (fun _ => rfl) rfl r_R_43_1 ?_
  refine ev_go 3 (pc1 := 75) (lv1 := [.ref 43, .long vv, xmk, .int y, .int x]) (st1 := [.int x, .int y, .long vv, .ref 3]) (h1 := (124, I, J, R)) rfl ?_
  refine ev_call (v1 := none) (h1 := (124, I1, J1, R)) rfl rfl c1 ?_
  exact ev_ret rfl rfl
set_option maxRecDepth 20000 in
theorem ap_3 {L : Nat} {xs : Nat → Int32} {d : Nat} {I : Nat → Nat → Int32} {J : Nat → Nat → Int64} {R : Nat → Nat → Nat} {y x : Int32} {vv : Int64} (hG : aGd R) (b1 : (I 3 14).toInt ≥ 0) (b2 : (I 3 14).toInt < 7) (n1 : 0 ≤ (I 3 14).toInt) (m1 : (I 3 14).toInt < 7) (c1 : xEv L xs d 33 0 [.ref 5, .int (I 3 14), .int y] [] (124, I, (uL J 4 (I 3 14).toNatClampNeg vv), R) none (124, (uI I 5 (I 3 14).toNatClampNeg y), (uL J 4 (I 3 14).toNatClampNeg vv), R)) (c2 : xEv L xs d 33 0 [.ref 6, .int (I 3 14), .int x] [] (124, (uI I 5 (I 3 14).toNatClampNeg y), (uL J 4 (I 3 14).toNatClampNeg vv), R) none (124, (uI (uI I 5 (I 3 14).toNatClampNeg y) 6 (I 3 14).toNatClampNeg x), (uL J 4 (I 3 14).toNatClampNeg vv), R)) : xEv L xs (d + 1) 32 0 [.ref 3, .long vv, xmk, .int y, .int x] [] (124, I, J, R) none (124, (uI (uI (uI I 5 (I 3 14).toNatClampNeg y) 6 (I 3 14).toNatClampNeg x) 3 14 ((I 3 14) + 1)), (uL J 4 (I 3 14).toNatClampNeg vv), R) := by
  refine ev_go 2 (pc1 := 4) (lv1 := [.ref 3, .long vv, xmk, .int y, .int x]) (st1 := [.int (I 3 14)]) (h1 := (124, I, J, R)) rfl ?_
  refine ev_br (b1 := false) rfl rfl (xcd_nlt (x := (I 3 14)) (y := 0) (by rw [show ((0 : Int32)).toInt = 0 from by decide]; first | exact b1 | omega)) ?_
  refine ev_go 3 (pc1 := 12) (lv1 := [.ref 3, .long vv, xmk, .int y, .int x]) (st1 := [.ref 3, .int (I 3 14)]) (h1 := (124, I, J, R)) rfl ?_
  refine ev_gf (c := 3) (t := 4) (X := R 3 0) rfl rfl (fun _ => rfl) rfl (hG 3 0 4 rfl rfl) ?_
  refine ev_go 1 (pc1 := 16) (lv1 := [.ref 3, .long vv, xmk, .int y, .int x]) (st1 := [.int 7, .int (I 3 14)]) (h1 := (124, I, J, R)) rfl ?_
  refine ev_br (b1 := true) rfl rfl (xcd_lt (x := (I 3 14)) (y := 7) (by rw [show ((7 : Int32)).toInt = 7 from by decide]; first | exact b2 | omega)) ?_
  refine ev_go 1 (pc1 := 21) (lv1 := [.ref 3, .long vv, xmk, .int y, .int x]) (st1 := [.ref 3]) (h1 := (124, I, J, R)) rfl ?_
  refine ev_gf (c := 3) (t := 4) (X := R 3 0) rfl rfl (fun _ => rfl) rfl (hG 3 0 4 rfl rfl) ?_
  refine ev_go 3 (pc1 := 29) (lv1 := [.ref 3, .long vv, xmk, .int y, .int x]) (st1 := [.long vv, .int (I 3 14), .ref 4]) (h1 := (124, I, J, R)) rfl ?_
  refine ev_lst (n := 7) rfl rfl (fun _ => rfl) n1 m1 ?_
  refine ev_go 1 (pc1 := 31) (lv1 := [.ref 3, .long vv, xmk, .int y, .int x]) (st1 := [.ref 3]) (h1 := (124, I, (uL J 4 (I 3 14).toNatClampNeg vv), R)) rfl ?_
  refine ev_gf (c := 3) (t := 5) (X := R 3 1) rfl rfl (fun _ => rfl) rfl (hG 3 1 5 rfl rfl) ?_
  refine ev_go 3 (pc1 := 39) (lv1 := [.ref 3, .long vv, xmk, .int y, .int x]) (st1 := [.int y, .int (I 3 14), .ref 5]) (h1 := (124, I, (uL J 4 (I 3 14).toNatClampNeg vv), R)) rfl ?_
  refine ev_call (v1 := none) (h1 := (124, (uI I 5 (I 3 14).toNatClampNeg y), (uL J 4 (I 3 14).toNatClampNeg vv), R)) rfl rfl c1 ?_
  refine ev_go 1 (pc1 := 43) (lv1 := [.ref 3, .long vv, xmk, .int y, .int x]) (st1 := [.ref 3]) (h1 := (124, (uI I 5 (I 3 14).toNatClampNeg y), (uL J 4 (I 3 14).toNatClampNeg vv), R)) rfl ?_
  refine ev_gf (c := 3) (t := 6) (X := R 3 2) rfl rfl (fun _ => rfl) rfl (hG 3 2 6 rfl rfl) ?_
  refine ev_go 3 (pc1 := 52) (lv1 := [.ref 3, .long vv, xmk, .int y, .int x]) (st1 := [.int x, .int (I 3 14), .ref 6]) (h1 := (124, (uI I 5 (I 3 14).toNatClampNeg y), (uL J 4 (I 3 14).toNatClampNeg vv), R)) rfl ?_
  refine ev_call (v1 := none) (h1 := (124, (uI (uI I 5 (I 3 14).toNatClampNeg y) 6 (I 3 14).toNatClampNeg x), (uL J 4 (I 3 14).toNatClampNeg vv), R)) rfl rfl c2 ?_
  refine ev_go 6 (pc1 := 65) (lv1 := [.ref 3, .long vv, xmk, .int y, .int x]) (st1 := []) (h1 := (124, (uI (uI (uI I 5 (I 3 14).toNatClampNeg y) 6 (I 3 14).toNatClampNeg x) 3 14 ((I 3 14) + 1)), (uL J 4 (I 3 14).toNatClampNeg vv), R)) rfl ?_
  exact ev_ret rfl rfl
/-- the village in the making: class and reference -/
def PR_23 (b : Nat → Int32) (np nm nn : Nat) (Ic : Nat → Nat → Int32) (Jc : Nat → Nat → Int64) (Ir : Nat → Nat → Int32) (Jr : Nat → Nat → Int64) : Prop :=
  (np ≤ 7 ∧ nm ≤ 16 ∧ nn ≤ 4) ∧ ((Ic 23 14).toInt = np ∧ (Ir 88 3).toInt = np) ∧ ((Ic 23 15).toInt = nm ∧ (Ir 88 4).toInt = nm) ∧ ((Ic 23 16).toInt = nn ∧ (Ir 88 5).toInt = nn) ∧
  (∀ i, i < np → Ic 25 i = Ir 90 (7 + i) ∧ Ic 26 i = Ir 91 (7 + i) ∧ 1 ≤ (Ic 25 i).toInt ∧ ∃ st m, 1 ≤ m ∧ m ≤ 8 ∧ isLt b st m ∧ Jc 24 i = vF b st m ∧ Jr 89 i = wF b st m) ∧
  (∀ i, i < nm → Ic 27 i = Ir 92 (16 + i) ∧ Ic 28 i = Ir 93 (16 + i) ∧ Ic 29 i = Ir 94 (16 + i) ∧ Ic 30 i = Ir 95 (16 + i)) ∧
  (∀ i, i < nn → Ic 31 i = Ir 96 (4 + i) ∧ Ic 32 i = Ir 97 (4 + i) ∧ Ic 33 i = Ir 98 (4 + i) ∧ Ic 34 i = Ir 99 (4 + i) ∧ Ic 35 i = Ir 100 (4 + i)) ∧
  (∀ i, i < nn → 0 ≤ (Ic 31 i).toInt ∧ (Ic 31 i).toInt < np) ∧
  (∀ q : Nat, q < np → (cIn (fun i => (Ic 31 i).toInt) (q : Int) nn : Int) ≤ (Ic 25 q).toInt) ∧
  ((∀ i, i < nm → 0 ≤ (Ic 27 i).toInt ∧ (Ic 27 i).toInt < np ∧ 0 ≤ (Ic 28 i).toInt ∧ (Ic 28 i).toInt < np ∧ (Ic 27 i).toInt ≠ (Ic 28 i).toInt) ∧ (∀ i, i < nn → 0 ≤ (Ic 32 i).toInt ∧ (Ic 32 i).toInt < np ∧ (Ic 31 i).toInt ≠ (Ic 32 i).toInt))
theorem PR_x_23 {b : Nat → Int32} {np nm nn : Nat} {Ic Ic' Ir : Nat → Nat → Int32} {Jc Jc' Jr : Nat → Nat → Int64} (h : PR_23 b np nm nn Ic Jc Ir Jr) (al : alX Ic Ic' Jc Jc') : PR_23 b np nm nn Ic' Jc' Ir Jr := by
  have e : ∀ c q, (23 ≤ c ∧ c ≤ 37) → Ic' c q = Ic c q := fun c q hc => al.1 c q (by omega) (by omega)
  have e0 : ∀ c, (23 ≤ c ∧ c ≤ 37) → Ic' c = Ic c := fun c hc => funext fun q => e c q hc
  have ej : Jc' 24 = Jc 24 := funext fun q => al.2 24 q (by omega)
  unfold PR_23 at h ⊢
  rw [e0 23 (by decide), e0 25 (by decide), e0 26 (by decide), e0 27 (by decide), e0 28 (by decide), e0 29 (by decide), e0 30 (by decide), e0 31 (by decide), e0 32 (by decide), e0 33 (by decide), e0 34 (by decide), e0 35 (by decide), ej]
  exact h
theorem PR_m_23 {b : Nat → Int32} {np nm nn : Nat} {Ic Ir Ir' : Nat → Nat → Int32} {Jc Jr Jr' : Nat → Nat → Int64} (h : PR_23 b np nm nn Ic Jc Ir Jr) (al : alM Ir Ir' Jr Jr') : PR_23 b np nm nn Ic Jc Ir' Jr' := by
  have e0 : ∀ c, c ≠ 86 → Ir' c = Ir c := fun c hc => funext fun q => al.1 c q (by omega)
  have ej : Jr' 89 = Jr 89 := funext fun q => al.2 89 q (by omega)
  unfold PR_23 at h ⊢
  rw [e0 88 (by decide), e0 90 (by decide), e0 91 (by decide), e0 92 (by decide), e0 93 (by decide), e0 94 (by decide), e0 95 (by decide), e0 96 (by decide), e0 97 (by decide), e0 98 (by decide), e0 99 (by decide), e0 100 (by decide), ej]
  exact h
set_option maxRecDepth 20000 in
theorem rpD60_23 {L : Nat} {xs : Nat → Int32} {d : Nat} {I : Nat → Nat → Int32} {J : Nat → Nat → Int64} {R : Nat → Nat → Nat} {u1 u2 u3 u4 : Value} (hG : aGd R) (b1 : (I 43 2).toInt ≠ 0) : xEv L xs d 26 60 [.ref 43, u1, u2, u3, u4] [] (124, I, J, R) none (124, I, J, R) := by
  refine ev_go 2 (pc1 := 64) (lv1 := [.ref 43, u1, u2, u3, u4]) (st1 := [.int (I 43 2)]) (h1 := (124, I, J, R)) rfl ?_
  refine ev_br (b1 := true) rfl rfl (xcd_ne (x := (I 43 2)) (y := 0) (by rw [show ((0 : Int32)).toInt = 0 from by decide]; first | exact b1 | omega)) ?_
  exact ev_ret rfl rfl
set_option maxRecDepth 20000 in
theorem rpD47_23 {L : Nat} {xs : Nat → Int32} {d : Nat} {I : Nat → Nat → Int32} {J : Nat → Nat → Int64} {R : Nat → Nat → Nat} {y z : Int32} {u4 : Value} {vv : Int64} (hG : aGd R) (c1 : xEv L xs d 31 0 [.ref 43, .retAddr 3, .int 0, .int 500, .int 0, xmk] [] (124, I, J, R) (some (.int z)) (124, I, J, R)) (b1 : (I 43 2).toInt ≠ 0) : xEv L xs (d + 1) 26 47 [.ref 43, .long vv, xmk, .int y, u4] [] (124, I, J, R) none (124, I, J, R) := by
  refine ev_go 5 (pc1 := 55) (lv1 := [.ref 43, .long vv, xmk, .int y, u4]) (st1 := [.int 0, .int 500, .int 0, .retAddr 3, .ref 43]) (h1 := (124, I, J, R)) rfl ?_
  refine ev_call (v1 := (some (.int z))) (h1 := (124, I, J, R)) rfl rfl c1 ?_
  refine ev_go 3 (pc1 := 64) (lv1 := [.ref 43, .long vv, xmk, .int y, .int z]) (st1 := [.int (I 43 2)]) (h1 := (124, I, J, R)) rfl ?_
  refine ev_br (b1 := true) rfl rfl (xcd_ne (x := (I 43 2)) (y := 0) (by rw [show ((0 : Int32)).toInt = 0 from by decide]; first | exact b1 | omega)) ?_
  exact ev_ret rfl rfl
set_option maxRecDepth 20000 in
theorem rpD40_23 {L : Nat} {xs : Nat → Int32} {d : Nat} {I : Nat → Nat → Int32} {J : Nat → Nat → Int64} {R : Nat → Nat → Nat} {y : Int32} {u3 u4 : Value} {vv : Int64} (hG : aGd R) (c1 : xEv L xs d 30 0 [.ref 43, .int 1, .int 3, xmk, xmk] [] (124, I, J, R) (some (.int y)) (124, I, J, R)) {v : Option Value} {h' : xH} (hk : xEv L xs (d + 1) 26 47 [.ref 43, .long vv, xmk, .int y, u4] [] (124, I, J, R) v h') : xEv L xs (d + 1) 26 40 [.ref 43, .long vv, xmk, u3, u4] [] (124, I, J, R) v h' := by
  refine ev_go 3 (pc1 := 43) (lv1 := [.ref 43, .long vv, xmk, u3, u4]) (st1 := [.int 3, .int 1, .ref 43]) (h1 := (124, I, J, R)) rfl ?_
  refine ev_call (v1 := (some (.int y))) (h1 := (124, I, J, R)) rfl rfl c1 ?_
  refine ev_go 1 (pc1 := 47) (lv1 := [.ref 43, .long vv, xmk, .int y, u4]) (st1 := []) (h1 := (124, I, J, R)) rfl ?_
  exact hk
set_option maxRecDepth 20000 in
theorem rpD23a_23 {L : Nat} {xs : Nat → Int32} {d : Nat} {I : Nat → Nat → Int32} {J : Nat → Nat → Int64} {R : Nat → Nat → Nat} {z : Int32} {u3 u4 : Value} {vv : Int64} (hG : aGd R) (r_R_43_1 : R 43 1 = 24) (c1 : xEv L xs d 29 0 [.ref 23, .long vv, xmk, xmk] [] (124, I, J, R) (some (.int z)) (124, I, J, R)) (b1 : z.toInt = -1) {v : Option Value} {h' : xH} (hk : xEv L xs (d + 1) 26 40 [.ref 43, .long vv, xmk, u3, u4] [] (124, I, J, R) v h') : xEv L xs (d + 1) 26 23 [.ref 43, .long vv, xmk, u3, u4] [] (124, I, J, R) v h' := by
  refine ev_go 1 (pc1 := 24) (lv1 := [.ref 43, .long vv, xmk, u3, u4]) (st1 := [.ref 43]) (h1 := (124, I, J, R)) rfl ?_
  refine ev_gf (c := 43) (t := 23) (X := R 43 1) rfl rfl (fun _ => rfl) rfl r_R_43_1 ?_
  refine ev_go 1 (pc1 := 28) (lv1 := [.ref 43, .long vv, xmk, u3, u4]) (st1 := [.long vv, .ref 23]) (h1 := (124, I, J, R)) rfl ?_
  refine ev_call (v1 := (some (.int z))) (h1 := (124, I, J, R)) rfl rfl c1 ?_
  refine ev_go 1 (pc1 := 32) (lv1 := [.ref 43, .long vv, xmk, u3, u4]) (st1 := [.int (-1), .int z]) (h1 := (124, I, J, R)) rfl ?_
  refine ev_br (b1 := true) rfl rfl (xcd_eq (x := z) (y := (-1)) (by rw [show ((-1 : Int32)).toInt = -1 from by decide]; first | exact b1 | omega)) ?_
  exact hk
set_option maxRecDepth 20000 in
theorem rpD23b_23 {L : Nat} {xs : Nat → Int32} {d : Nat} {I : Nat → Nat → Int32} {J : Nat → Nat → Int64} {R : Nat → Nat → Nat} {z : Int32} {u3 u4 : Value} {vv : Int64} (hG : aGd R) (r_R_43_1 : R 43 1 = 24) (c1 : xEv L xs d 29 0 [.ref 23, .long vv, xmk, xmk] [] (124, I, J, R) (some (.int z)) (124, I, J, R)) (b1 : z.toInt ≠ -1) (c2 : xEv L xs d 27 0 [.ref 43, .int 3] [] (124, I, J, R) none (124, I, J, R)) {v : Option Value} {h' : xH} (hk : xEv L xs (d + 1) 26 40 [.ref 43, .long vv, xmk, u3, u4] [] (124, I, J, R) v h') : xEv L xs (d + 1) 26 23 [.ref 43, .long vv, xmk, u3, u4] [] (124, I, J, R) v h' := by
  refine ev_go 1 (pc1 := 24) (lv1 := [.ref 43, .long vv, xmk, u3, u4]) (st1 := [.ref 43]) (h1 := (124, I, J, R)) rfl ?_
  refine ev_gf (c := 43) (t := 23) (X := R 43 1) rfl rfl (fun _ => rfl) rfl r_R_43_1 ?_
  refine ev_go 1 (pc1 := 28) (lv1 := [.ref 43, .long vv, xmk, u3, u4]) (st1 := [.long vv, .ref 23]) (h1 := (124, I, J, R)) rfl ?_
  refine ev_call (v1 := (some (.int z))) (h1 := (124, I, J, R)) rfl rfl c1 ?_
  refine ev_go 1 (pc1 := 32) (lv1 := [.ref 43, .long vv, xmk, u3, u4]) (st1 := [.int (-1), .int z]) (h1 := (124, I, J, R)) rfl ?_
  refine ev_br (b1 := false) rfl rfl (xcd_neq (x := z) (y := (-1)) (by rw [show ((-1 : Int32)).toInt = -1 from by decide]; first | exact b1 | omega)) ?_
  refine ev_go 2 (pc1 := 37) (lv1 := [.ref 43, .long vv, xmk, u3, u4]) (st1 := [.int 3, .ref 43]) (h1 := (124, I, J, R)) rfl ?_
  refine ev_call (v1 := none) (h1 := (124, I, J, R)) rfl rfl c2 ?_
  exact hk
set_option maxRecDepth 20000 in
theorem rpD17_23 {L : Nat} {xs : Nat → Int32} {d : Nat} {I : Nat → Nat → Int32} {J : Nat → Nat → Int64} {R : Nat → Nat → Nat} {u1 u2 u3 u4 : Value} {vv : Int64} (hG : aGd R) (c1 : xEv L xs d 28 0 [.ref 43, .int 1] [] (124, I, J, R) (some (.long vv)) (124, I, J, R)) {v : Option Value} {h' : xH} (hk : xEv L xs (d + 1) 26 23 [.ref 43, .long vv, xmk, u3, u4] [] (124, I, J, R) v h') : xEv L xs (d + 1) 26 17 [.ref 43, u1, u2, u3, u4] [] (124, I, J, R) v h' := by
  refine ev_go 2 (pc1 := 19) (lv1 := [.ref 43, u1, u2, u3, u4]) (st1 := [.int 1, .ref 43]) (h1 := (124, I, J, R)) rfl ?_
  refine ev_call (v1 := (some (.long vv))) (h1 := (124, I, J, R)) rfl rfl c1 ?_
  refine ev_go 1 (pc1 := 23) (lv1 := [.ref 43, .long vv, xmk, u3, u4]) (st1 := []) (h1 := (124, I, J, R)) rfl ?_
  exact hk
set_option maxRecDepth 20000 in
theorem rpA0_23 {L : Nat} {xs : Nat → Int32} {d : Nat} {I : Nat → Nat → Int32} {J : Nat → Nat → Int64} {R : Nat → Nat → Nat} (hG : aGd R) (r_R_43_1 : R 43 1 = 24) (b1 : (I 23 14).toInt < 7) {v : Option Value} {h' : xH} (hk : xEv L xs d 26 17 [.ref 43, xmk, xmk, xmk, xmk] [] (124, I, J, R) v h') : xEv L xs d 26 0 [.ref 43, xmk, xmk, xmk, xmk] [] (124, I, J, R) v h' := by
  refine ev_go 1 (pc1 := 1) (lv1 := [.ref 43, xmk, xmk, xmk, xmk]) (st1 := [.ref 43]) (h1 := (124, I, J, R)) rfl ?_
  refine ev_gf (c := 43) (t := 23) (X := R 43 1) rfl rfl (fun _ => rfl) rfl r_R_43_1 ?_
  refine ev_go 2 (pc1 := 9) (lv1 := [.ref 43, xmk, xmk, xmk, xmk]) (st1 := [.int 7, .int (I 23 14)]) (h1 := (124, I, J, R)) rfl ?_
  refine ev_br (b1 := true) rfl rfl (xcd_lt (x := (I 23 14)) (y := 7) (by rw [show ((7 : Int32)).toInt = 7 from by decide]; first | exact b1 | omega)) ?_
  exact hk
set_option maxRecDepth 20000 in
theorem rpA0f_23 {L : Nat} {xs : Nat → Int32} {d : Nat} {I : Nat → Nat → Int32} {J : Nat → Nat → Int64} {R : Nat → Nat → Nat} (hG : aGd R) (r_R_43_1 : R 43 1 = 24) (b1 : (I 23 14).toInt ≥ 7) (c1 : xEv L xs d 27 0 [.ref 43, .int 4] [] (124, I, J, R) none (124, (uI (uI I 43 2 4) 43 3 (I 1 4)), J, R)) {v : Option Value} {h' : xH} (hk : xEv L xs (d + 1) 26 17 [.ref 43, xmk, xmk, xmk, xmk] [] (124, (uI (uI I 43 2 4) 43 3 (I 1 4)), J, R) v h') : xEv L xs (d + 1) 26 0 [.ref 43, xmk, xmk, xmk, xmk] [] (124, I, J, R) v h' := by
  refine ev_go 1 (pc1 := 1) (lv1 := [.ref 43, xmk, xmk, xmk, xmk]) (st1 := [.ref 43]) (h1 := (124, I, J, R)) rfl ?_
  refine ev_gf (c := 43) (t := 23) (X := R 43 1) rfl rfl (fun _ => rfl) rfl r_R_43_1 ?_
  refine ev_go 2 (pc1 := 9) (lv1 := [.ref 43, xmk, xmk, xmk, xmk]) (st1 := [.int 7, .int (I 23 14)]) (h1 := (124, I, J, R)) rfl ?_
  refine ev_br (b1 := false) rfl rfl (xcd_nlt (x := (I 23 14)) (y := 7) (by rw [show ((7 : Int32)).toInt = 7 from by decide]; first | exact b1 | omega)) ?_
  refine ev_go 2 (pc1 := 14) (lv1 := [.ref 43, xmk, xmk, xmk, xmk]) (st1 := [.int 4, .ref 43]) (h1 := (124, I, J, R)) rfl ?_
  refine ev_call (v1 := none) (h1 := (124, (uI (uI I 43 2 4) 43 3 (I 1 4)), J, R)) rfl rfl c1 ?_
  exact hk
set_option maxRecDepth 20000 in
theorem rpA17_23 {L : Nat} {xs : Nat → Int32} {d : Nat} {I : Nat → Nat → Int32} {J : Nat → Nat → Int64} {R : Nat → Nat → Nat} {I1 : Nat → Nat → Int32} {J1 : Nat → Nat → Int64} {vv : Int64} (hG : aGd R) (c1 : xEv L xs d 28 0 [.ref 43, .int 1] [] (124, I, J, R) (some (.long vv)) (124, I1, J1, R)) {v : Option Value} {h' : xH} (hk : xEv L xs (d + 1) 26 23 [.ref 43, .long vv, xmk, xmk, xmk] [] (124, I1, J1, R) v h') : xEv L xs (d + 1) 26 17 [.ref 43, xmk, xmk, xmk, xmk] [] (124, I, J, R) v h' := by
  refine ev_go 2 (pc1 := 19) (lv1 := [.ref 43, xmk, xmk, xmk, xmk]) (st1 := [.int 1, .ref 43]) (h1 := (124, I, J, R)) rfl ?_
  refine ev_call (v1 := (some (.long vv))) (h1 := (124, I1, J1, R)) rfl rfl c1 ?_
  refine ev_go 1 (pc1 := 23) (lv1 := [.ref 43, .long vv, xmk, xmk, xmk]) (st1 := []) (h1 := (124, I1, J1, R)) rfl ?_
  exact hk
set_option maxRecDepth 20000 in
theorem rpA23_23 {L : Nat} {xs : Nat → Int32} {d : Nat} {I : Nat → Nat → Int32} {J : Nat → Nat → Int64} {R : Nat → Nat → Nat} {z : Int32} {vv : Int64} (hG : aGd R) (r_R_43_1 : R 43 1 = 24) (c1 : xEv L xs d 29 0 [.ref 23, .long vv, xmk, xmk] [] (124, I, J, R) (some (.int z)) (124, I, J, R)) (b1 : z.toInt = -1) {v : Option Value} {h' : xH} (hk : xEv L xs (d + 1) 26 40 [.ref 43, .long vv, xmk, xmk, xmk] [] (124, I, J, R) v h') : xEv L xs (d + 1) 26 23 [.ref 43, .long vv, xmk, xmk, xmk] [] (124, I, J, R) v h' := by
  refine ev_go 1 (pc1 := 24) (lv1 := [.ref 43, .long vv, xmk, xmk, xmk]) (st1 := [.ref 43]) (h1 := (124, I, J, R)) rfl ?_
  refine ev_gf (c := 43) (t := 23) (X := R 43 1) rfl rfl (fun _ => rfl) rfl r_R_43_1 ?_
  refine ev_go 1 (pc1 := 28) (lv1 := [.ref 43, .long vv, xmk, xmk, xmk]) (st1 := [.long vv, .ref 23]) (h1 := (124, I, J, R)) rfl ?_
  refine ev_call (v1 := (some (.int z))) (h1 := (124, I, J, R)) rfl rfl c1 ?_
  refine ev_go 1 (pc1 := 32) (lv1 := [.ref 43, .long vv, xmk, xmk, xmk]) (st1 := [.int (-1), .int z]) (h1 := (124, I, J, R)) rfl ?_
  refine ev_br (b1 := true) rfl rfl (xcd_eq (x := z) (y := (-1)) (by rw [show ((-1 : Int32)).toInt = -1 from by decide]; first | exact b1 | omega)) ?_
  exact hk
set_option maxRecDepth 20000 in
theorem rpA23f_23 {L : Nat} {xs : Nat → Int32} {d : Nat} {I : Nat → Nat → Int32} {J : Nat → Nat → Int64} {R : Nat → Nat → Nat} {z : Int32} {vv : Int64} (hG : aGd R) (r_R_43_1 : R 43 1 = 24) (c1 : xEv L xs d 29 0 [.ref 23, .long vv, xmk, xmk] [] (124, I, J, R) (some (.int z)) (124, I, J, R)) (b1 : z.toInt ≠ -1) (c2 : xEv L xs d 27 0 [.ref 43, .int 3] [] (124, I, J, R) none (124, (uI (uI I 43 2 3) 43 3 (I 1 4)), J, R)) {v : Option Value} {h' : xH} (hk : xEv L xs (d + 1) 26 40 [.ref 43, .long vv, xmk, xmk, xmk] [] (124, (uI (uI I 43 2 3) 43 3 (I 1 4)), J, R) v h') : xEv L xs (d + 1) 26 23 [.ref 43, .long vv, xmk, xmk, xmk] [] (124, I, J, R) v h' := by
  refine ev_go 1 (pc1 := 24) (lv1 := [.ref 43, .long vv, xmk, xmk, xmk]) (st1 := [.ref 43]) (h1 := (124, I, J, R)) rfl ?_
  refine ev_gf (c := 43) (t := 23) (X := R 43 1) rfl rfl (fun _ => rfl) rfl r_R_43_1 ?_
  refine ev_go 1 (pc1 := 28) (lv1 := [.ref 43, .long vv, xmk, xmk, xmk]) (st1 := [.long vv, .ref 23]) (h1 := (124, I, J, R)) rfl ?_
  refine ev_call (v1 := (some (.int z))) (h1 := (124, I, J, R)) rfl rfl c1 ?_
  refine ev_go 1 (pc1 := 32) (lv1 := [.ref 43, .long vv, xmk, xmk, xmk]) (st1 := [.int (-1), .int z]) (h1 := (124, I, J, R)) rfl ?_
  refine ev_br (b1 := false) rfl rfl (xcd_neq (x := z) (y := (-1)) (by rw [show ((-1 : Int32)).toInt = -1 from by decide]; first | exact b1 | omega)) ?_
  refine ev_go 2 (pc1 := 37) (lv1 := [.ref 43, .long vv, xmk, xmk, xmk]) (st1 := [.int 3, .ref 43]) (h1 := (124, I, J, R)) rfl ?_
  refine ev_call (v1 := none) (h1 := (124, (uI (uI I 43 2 3) 43 3 (I 1 4)), J, R)) rfl rfl c2 ?_
  exact hk
set_option maxRecDepth 20000 in
theorem rpA40_23 {L : Nat} {xs : Nat → Int32} {d : Nat} {I : Nat → Nat → Int32} {J : Nat → Nat → Int64} {R : Nat → Nat → Nat} {I1 : Nat → Nat → Int32} {J1 : Nat → Nat → Int64} {y : Int32} {vv : Int64} (hG : aGd R) (c1 : xEv L xs d 30 0 [.ref 43, .int 1, .int 3, xmk, xmk] [] (124, I, J, R) (some (.int y)) (124, I1, J1, R)) {v : Option Value} {h' : xH} (hk : xEv L xs (d + 1) 26 47 [.ref 43, .long vv, xmk, .int y, xmk] [] (124, I1, J1, R) v h') : xEv L xs (d + 1) 26 40 [.ref 43, .long vv, xmk, xmk, xmk] [] (124, I, J, R) v h' := by
  refine ev_go 3 (pc1 := 43) (lv1 := [.ref 43, .long vv, xmk, xmk, xmk]) (st1 := [.int 3, .int 1, .ref 43]) (h1 := (124, I, J, R)) rfl ?_
  refine ev_call (v1 := (some (.int y))) (h1 := (124, I1, J1, R)) rfl rfl c1 ?_
  refine ev_go 1 (pc1 := 47) (lv1 := [.ref 43, .long vv, xmk, .int y, xmk]) (st1 := []) (h1 := (124, I1, J1, R)) rfl ?_
  exact hk
set_option maxRecDepth 20000 in
theorem rpA47_23 {L : Nat} {xs : Nat → Int32} {d : Nat} {I : Nat → Nat → Int32} {J : Nat → Nat → Int64} {R : Nat → Nat → Nat} {I1 : Nat → Nat → Int32} {J1 : Nat → Nat → Int64} {y x : Int32} {vv : Int64} (hG : aGd R) (c1 : xEv L xs d 31 0 [.ref 43, .retAddr 3, .int 0, .int 500, .int 0, xmk] [] (124, I, J, R) (some (.int x)) (124, I1, J1, R)) {v : Option Value} {h' : xH} (hk : xEv L xs (d + 1) 26 60 [.ref 43, .long vv, xmk, .int y, .int x] [] (124, I1, J1, R) v h') : xEv L xs (d + 1) 26 47 [.ref 43, .long vv, xmk, .int y, xmk] [] (124, I, J, R) v h' := by
  refine ev_go 5 (pc1 := 55) (lv1 := [.ref 43, .long vv, xmk, .int y, xmk]) (st1 := [.int 0, .int 500, .int 0, .retAddr 3, .ref 43]) (h1 := (124, I, J, R)) rfl ?_
  refine ev_call (v1 := (some (.int x))) (h1 := (124, I1, J1, R)) rfl rfl c1 ?_
  refine ev_go 1 (pc1 := 60) (lv1 := [.ref 43, .long vv, xmk, .int y, .int x]) (st1 := []) (h1 := (124, I1, J1, R)) rfl ?_
  exact hk
set_option maxRecDepth 20000 in
theorem rpA60_23 {L : Nat} {xs : Nat → Int32} {d : Nat} {I : Nat → Nat → Int32} {J : Nat → Nat → Int64} {R : Nat → Nat → Nat} {I1 : Nat → Nat → Int32} {J1 : Nat → Nat → Int64} {y x : Int32} {vv : Int64} (hG : aGd R) (b1 : (I 43 2).toInt = 0) (r_R_43_1 : R 43 1 = 24) (c1 : xEv L xs d 32 0 [.ref 23, .long vv, xmk, .int y, .int x] [] (124, I, J, R) none (124, I1, J1, R)) : xEv L xs (d + 1) 26 60 [.ref 43, .long vv, xmk, .int y, .int x] [] (124, I, J, R) none (124, I1, J1, R) := by
  refine ev_go 2 (pc1 := 64) (lv1 := [.ref 43, .long vv, xmk, .int y, .int x]) (st1 := [.int (I 43 2)]) (h1 := (124, I, J, R)) rfl ?_
  refine ev_br (b1 := false) rfl rfl (xcd_nne (x := (I 43 2)) (y := 0) (by rw [show ((0 : Int32)).toInt = 0 from by decide]; first | exact b1 | omega)) ?_
  refine ev_go 1 (pc1 := 68) (lv1 := [.ref 43, .long vv, xmk, .int y, .int x]) (st1 := [.ref 43]) (h1 := (124, I, J, R)) rfl ?_
  refine ev_gf (c := 43) (t := 23) (X := R 43 1) rfl rfl (fun _ => rfl) rfl r_R_43_1 ?_
  refine ev_go 3 (pc1 := 75) (lv1 := [.ref 43, .long vv, xmk, .int y, .int x]) (st1 := [.int x, .int y, .long vv, .ref 23]) (h1 := (124, I, J, R)) rfl ?_
  refine ev_call (v1 := none) (h1 := (124, I1, J1, R)) rfl rfl c1 ?_
  exact ev_ret rfl rfl
set_option maxRecDepth 20000 in
theorem ap_23 {L : Nat} {xs : Nat → Int32} {d : Nat} {I : Nat → Nat → Int32} {J : Nat → Nat → Int64} {R : Nat → Nat → Nat} {y x : Int32} {vv : Int64} (hG : aGd R) (b1 : (I 23 14).toInt ≥ 0) (b2 : (I 23 14).toInt < 7) (n1 : 0 ≤ (I 23 14).toInt) (m1 : (I 23 14).toInt < 7) (c1 : xEv L xs d 33 0 [.ref 25, .int (I 23 14), .int y] [] (124, I, (uL J 24 (I 23 14).toNatClampNeg vv), R) none (124, (uI I 25 (I 23 14).toNatClampNeg y), (uL J 24 (I 23 14).toNatClampNeg vv), R)) (c2 : xEv L xs d 33 0 [.ref 26, .int (I 23 14), .int x] [] (124, (uI I 25 (I 23 14).toNatClampNeg y), (uL J 24 (I 23 14).toNatClampNeg vv), R) none (124, (uI (uI I 25 (I 23 14).toNatClampNeg y) 26 (I 23 14).toNatClampNeg x), (uL J 24 (I 23 14).toNatClampNeg vv), R)) : xEv L xs (d + 1) 32 0 [.ref 23, .long vv, xmk, .int y, .int x] [] (124, I, J, R) none (124, (uI (uI (uI I 25 (I 23 14).toNatClampNeg y) 26 (I 23 14).toNatClampNeg x) 23 14 ((I 23 14) + 1)), (uL J 24 (I 23 14).toNatClampNeg vv), R) := by
  refine ev_go 2 (pc1 := 4) (lv1 := [.ref 23, .long vv, xmk, .int y, .int x]) (st1 := [.int (I 23 14)]) (h1 := (124, I, J, R)) rfl ?_
  refine ev_br (b1 := false) rfl rfl (xcd_nlt (x := (I 23 14)) (y := 0) (by rw [show ((0 : Int32)).toInt = 0 from by decide]; first | exact b1 | omega)) ?_
  refine ev_go 3 (pc1 := 12) (lv1 := [.ref 23, .long vv, xmk, .int y, .int x]) (st1 := [.ref 23, .int (I 23 14)]) (h1 := (124, I, J, R)) rfl ?_
  refine ev_gf (c := 23) (t := 24) (X := R 23 0) rfl rfl (fun _ => rfl) rfl (hG 23 0 24 rfl rfl) ?_
  refine ev_go 1 (pc1 := 16) (lv1 := [.ref 23, .long vv, xmk, .int y, .int x]) (st1 := [.int 7, .int (I 23 14)]) (h1 := (124, I, J, R)) rfl ?_
  refine ev_br (b1 := true) rfl rfl (xcd_lt (x := (I 23 14)) (y := 7) (by rw [show ((7 : Int32)).toInt = 7 from by decide]; first | exact b2 | omega)) ?_
  refine ev_go 1 (pc1 := 21) (lv1 := [.ref 23, .long vv, xmk, .int y, .int x]) (st1 := [.ref 23]) (h1 := (124, I, J, R)) rfl ?_
  refine ev_gf (c := 23) (t := 24) (X := R 23 0) rfl rfl (fun _ => rfl) rfl (hG 23 0 24 rfl rfl) ?_
  refine ev_go 3 (pc1 := 29) (lv1 := [.ref 23, .long vv, xmk, .int y, .int x]) (st1 := [.long vv, .int (I 23 14), .ref 24]) (h1 := (124, I, J, R)) rfl ?_
  refine ev_lst (n := 7) rfl rfl (fun _ => rfl) n1 m1 ?_
  refine ev_go 1 (pc1 := 31) (lv1 := [.ref 23, .long vv, xmk, .int y, .int x]) (st1 := [.ref 23]) (h1 := (124, I, (uL J 24 (I 23 14).toNatClampNeg vv), R)) rfl ?_
  refine ev_gf (c := 23) (t := 25) (X := R 23 1) rfl rfl (fun _ => rfl) rfl (hG 23 1 25 rfl rfl) ?_
  refine ev_go 3 (pc1 := 39) (lv1 := [.ref 23, .long vv, xmk, .int y, .int x]) (st1 := [.int y, .int (I 23 14), .ref 25]) (h1 := (124, I, (uL J 24 (I 23 14).toNatClampNeg vv), R)) rfl ?_
  refine ev_call (v1 := none) (h1 := (124, (uI I 25 (I 23 14).toNatClampNeg y), (uL J 24 (I 23 14).toNatClampNeg vv), R)) rfl rfl c1 ?_
  refine ev_go 1 (pc1 := 43) (lv1 := [.ref 23, .long vv, xmk, .int y, .int x]) (st1 := [.ref 23]) (h1 := (124, (uI I 25 (I 23 14).toNatClampNeg y), (uL J 24 (I 23 14).toNatClampNeg vv), R)) rfl ?_
  refine ev_gf (c := 23) (t := 26) (X := R 23 2) rfl rfl (fun _ => rfl) rfl (hG 23 2 26 rfl rfl) ?_
  refine ev_go 3 (pc1 := 52) (lv1 := [.ref 23, .long vv, xmk, .int y, .int x]) (st1 := [.int x, .int (I 23 14), .ref 26]) (h1 := (124, (uI I 25 (I 23 14).toNatClampNeg y), (uL J 24 (I 23 14).toNatClampNeg vv), R)) rfl ?_
  refine ev_call (v1 := none) (h1 := (124, (uI (uI I 25 (I 23 14).toNatClampNeg y) 26 (I 23 14).toNatClampNeg x), (uL J 24 (I 23 14).toNatClampNeg vv), R)) rfl rfl c2 ?_
  refine ev_go 6 (pc1 := 65) (lv1 := [.ref 23, .long vv, xmk, .int y, .int x]) (st1 := []) (h1 := (124, (uI (uI (uI I 25 (I 23 14).toNatClampNeg y) 26 (I 23 14).toNatClampNeg x) 23 14 ((I 23 14) + 1)), (uL J 24 (I 23 14).toNatClampNeg vv), R)) rfl ?_
  exact ev_ret rfl rfl
set_option maxRecDepth 20000 in
theorem mp_0 {L : Nat} {xs : Nat → Int32} {d : Nat} {I : Nat → Nat → Int32} {J : Nat → Nat → Int64} {R : Nat → Nat → Nat} (hG : aGd R) (b1 : (I 88 3).toInt = 7) (c1 : xEv L xs d 157 0 [.ref 86, .int 4] [] (124, I, J, R) (some (.int 0)) (124, (uI (uI I 86 8 4) 86 9 (I 86 5)), J, R)) : xEv L xs (d + 1) 156 0 [.ref 86, xmk] [] (124, I, J, R) (some (.int 0)) (124, (uI (uI I 86 8 4) 86 9 (I 86 5)), J, R) := by
  refine ev_go 1 (pc1 := 1) (lv1 := [.ref 86, xmk]) (st1 := [.ref 86]) (h1 := (124, I, J, R)) rfl ?_
  refine ev_gf (c := 86) (t := 88) (X := R 86 12) rfl rfl (fun _ => rfl) rfl (hG 86 12 88 rfl rfl) ?_
  refine ev_go 5 (pc1 := 10) (lv1 := [.ref 86, .int (I 88 3)]) (st1 := [.int 7, .int (I 88 3)]) (h1 := (124, I, J, R)) rfl ?_
  refine ev_br (b1 := false) rfl rfl (xcd_nne (x := (I 88 3)) (y := 7) (by rw [show ((7 : Int32)).toInt = 7 from by decide]; first | exact b1 | omega)) ?_
  refine ev_go 2 (pc1 := 15) (lv1 := [.ref 86, .int (I 88 3)]) (st1 := [.int 4, .ref 86]) (h1 := (124, I, J, R)) rfl ?_
  refine ev_call (v1 := (some (.int 0))) (h1 := (124, (uI (uI I 86 8 4) 86 9 (I 86 5)), J, R)) rfl rfl c1 ?_
  exact ev_ret rfl rfl
set_option maxRecDepth 20000 in
theorem mp_1 {L : Nat} {xs : Nat → Int32} {d : Nat} {I : Nat → Nat → Int32} {J : Nat → Nat → Int64} {R : Nat → Nat → Nat} {I1 : Nat → Nat → Int32} {J1 : Nat → Nat → Int64} (hG : aGd R) (b1 : (I 88 3).toInt ≠ 7) (c1 : xEv L xs d 150 0 [.ref 86, xmk, xmk, xmk] [] (124, I, J, R) none (124, I1, J1, R)) (b2 : (I1 86 3).toInt ≠ 1) (c2 : xEv L xs d 157 0 [.ref 86, .int 1] [] (124, I1, J1, R) (some (.int 0)) (124, (uI (uI I1 86 8 1) 86 9 (I1 86 5)), J1, R)) : xEv L xs (d + 1) 156 0 [.ref 86, xmk] [] (124, I, J, R) (some (.int 0)) (124, (uI (uI I1 86 8 1) 86 9 (I1 86 5)), J1, R) := by
  refine ev_go 1 (pc1 := 1) (lv1 := [.ref 86, xmk]) (st1 := [.ref 86]) (h1 := (124, I, J, R)) rfl ?_
  refine ev_gf (c := 86) (t := 88) (X := R 86 12) rfl rfl (fun _ => rfl) rfl (hG 86 12 88 rfl rfl) ?_
  refine ev_go 5 (pc1 := 10) (lv1 := [.ref 86, .int (I 88 3)]) (st1 := [.int 7, .int (I 88 3)]) (h1 := (124, I, J, R)) rfl ?_
  refine ev_br (b1 := true) rfl rfl (xcd_ne (x := (I 88 3)) (y := 7) (by rw [show ((7 : Int32)).toInt = 7 from by decide]; first | exact b1 | omega)) ?_
  refine ev_go 1 (pc1 := 20) (lv1 := [.ref 86, .int (I 88 3)]) (st1 := [.ref 86]) (h1 := (124, I, J, R)) rfl ?_
  refine ev_call (v1 := none) (h1 := (124, I1, J1, R)) rfl rfl c1 ?_
  refine ev_go 3 (pc1 := 28) (lv1 := [.ref 86, .int (I 88 3)]) (st1 := [.int 1, .int (I1 86 3)]) (h1 := (124, I1, J1, R)) rfl ?_
  refine ev_br (b1 := false) rfl rfl (xcd_neq (x := (I1 86 3)) (y := 1) (by rw [show ((1 : Int32)).toInt = 1 from by decide]; first | exact b2 | omega)) ?_
  refine ev_go 2 (pc1 := 33) (lv1 := [.ref 86, .int (I 88 3)]) (st1 := [.int 1, .ref 86]) (h1 := (124, I1, J1, R)) rfl ?_
  refine ev_call (v1 := (some (.int 0))) (h1 := (124, (uI (uI I1 86 8 1) 86 9 (I1 86 5)), J1, R)) rfl rfl c2 ?_
  exact ev_ret rfl rfl
set_option maxRecDepth 20000 in
theorem mp_2 {L : Nat} {xs : Nat → Int32} {d : Nat} {I : Nat → Nat → Int32} {J : Nat → Nat → Int64} {R : Nat → Nat → Nat} {I1 : Nat → Nat → Int32} {J1 : Nat → Nat → Int64} {z : Int32} (hG : aGd R) (b1 : (I 88 3).toInt ≠ 7) (c1 : xEv L xs d 150 0 [.ref 86, xmk, xmk, xmk] [] (124, I, J, R) none (124, I1, J1, R)) (b2 : (I1 86 3).toInt = 1) (c2 : xEv L xs d 158 0 [.ref 86, xmk] [] (124, I1, J1, R) (some (.int z)) (124, I1, J1, R)) (b3 : z.toInt ≠ -1) (c3 : xEv L xs d 157 0 [.ref 86, .int 3] [] (124, I1, J1, R) (some (.int 0)) (124, (uI (uI I1 86 8 3) 86 9 (I1 86 5)), J1, R)) : xEv L xs (d + 1) 156 0 [.ref 86, xmk] [] (124, I, J, R) (some (.int 0)) (124, (uI (uI I1 86 8 3) 86 9 (I1 86 5)), J1, R) := by
  refine ev_go 1 (pc1 := 1) (lv1 := [.ref 86, xmk]) (st1 := [.ref 86]) (h1 := (124, I, J, R)) rfl ?_
  refine ev_gf (c := 86) (t := 88) (X := R 86 12) rfl rfl (fun _ => rfl) rfl (hG 86 12 88 rfl rfl) ?_
  refine ev_go 5 (pc1 := 10) (lv1 := [.ref 86, .int (I 88 3)]) (st1 := [.int 7, .int (I 88 3)]) (h1 := (124, I, J, R)) rfl ?_
  refine ev_br (b1 := true) rfl rfl (xcd_ne (x := (I 88 3)) (y := 7) (by rw [show ((7 : Int32)).toInt = 7 from by decide]; first | exact b1 | omega)) ?_
  refine ev_go 1 (pc1 := 20) (lv1 := [.ref 86, .int (I 88 3)]) (st1 := [.ref 86]) (h1 := (124, I, J, R)) rfl ?_
  refine ev_call (v1 := none) (h1 := (124, I1, J1, R)) rfl rfl c1 ?_
  refine ev_go 3 (pc1 := 28) (lv1 := [.ref 86, .int (I 88 3)]) (st1 := [.int 1, .int (I1 86 3)]) (h1 := (124, I1, J1, R)) rfl ?_
  refine ev_br (b1 := true) rfl rfl (xcd_eq (x := (I1 86 3)) (y := 1) (by rw [show ((1 : Int32)).toInt = 1 from by decide]; first | exact b2 | omega)) ?_
  refine ev_go 1 (pc1 := 38) (lv1 := [.ref 86, .int (I 88 3)]) (st1 := [.ref 86]) (h1 := (124, I1, J1, R)) rfl ?_
  refine ev_call (v1 := (some (.int z))) (h1 := (124, I1, J1, R)) rfl rfl c2 ?_
  refine ev_go 1 (pc1 := 42) (lv1 := [.ref 86, .int (I 88 3)]) (st1 := [.int (-1), .int z]) (h1 := (124, I1, J1, R)) rfl ?_
  refine ev_br (b1 := false) rfl rfl (xcd_neq (x := z) (y := (-1)) (by rw [show ((-1 : Int32)).toInt = -1 from by decide]; first | exact b3 | omega)) ?_
  refine ev_go 2 (pc1 := 47) (lv1 := [.ref 86, .int (I 88 3)]) (st1 := [.int 3, .ref 86]) (h1 := (124, I1, J1, R)) rfl ?_
  refine ev_call (v1 := (some (.int 0))) (h1 := (124, (uI (uI I1 86 8 3) 86 9 (I1 86 5)), J1, R)) rfl rfl c3 ?_
  exact ev_ret rfl rfl
set_option maxRecDepth 20000 in
theorem mp_3 {L : Nat} {xs : Nat → Int32} {d : Nat} {I : Nat → Nat → Int32} {J : Nat → Nat → Int64} {R : Nat → Nat → Nat} {I1 : Nat → Nat → Int32} {J1 : Nat → Nat → Int64} {I2 : Nat → Nat → Int32} {J2 : Nat → Nat → Int64} {I3 : Nat → Nat → Int32} {J3 : Nat → Nat → Int64} {z : Int32} (hG : aGd R) (b1 : (I 88 3).toInt ≠ 7) (c1 : xEv L xs d 150 0 [.ref 86, xmk, xmk, xmk] [] (124, I, J, R) none (124, I1, J1, R)) (b2 : (I1 86 3).toInt = 1) (c2 : xEv L xs d 158 0 [.ref 86, xmk] [] (124, I1, J1, R) (some (.int z)) (124, I1, J1, R)) (b3 : z.toInt = -1) (n1 : 0 ≤ (I 88 3).toInt) (m1 : (I 88 3).toInt < 7) (c3 : xEv L xs d 150 0 [.ref 86, xmk, xmk, xmk] [] (124, I1, (uL J1 89 (I 88 3).toNatClampNeg (J1 86 10)), R) none (124, I2, J2, R)) (c4 : xEv L xs d 159 0 [.ref 86, .int 1, .int 3] [] (124, I2, J2, R) (some (.int 0)) (124, I3, J3, R)) : xEv L xs (d + 1) 156 0 [.ref 86, xmk] [] (124, I, J, R) (some (.int 0)) (124, I3, J3, R) := by
  refine ev_go 1 (pc1 := 1) (lv1 := [.ref 86, xmk]) (st1 := [.ref 86]) (h1 := (124, I, J, R)) rfl ?_
  refine ev_gf (c := 86) (t := 88) (X := R 86 12) rfl rfl (fun _ => rfl) rfl (hG 86 12 88 rfl rfl) ?_
  refine ev_go 5 (pc1 := 10) (lv1 := [.ref 86, .int (I 88 3)]) (st1 := [.int 7, .int (I 88 3)]) (h1 := (124, I, J, R)) rfl ?_
  refine ev_br (b1 := true) rfl rfl (xcd_ne (x := (I 88 3)) (y := 7) (by rw [show ((7 : Int32)).toInt = 7 from by decide]; first | exact b1 | omega)) ?_
  refine ev_go 1 (pc1 := 20) (lv1 := [.ref 86, .int (I 88 3)]) (st1 := [.ref 86]) (h1 := (124, I, J, R)) rfl ?_
  refine ev_call (v1 := none) (h1 := (124, I1, J1, R)) rfl rfl c1 ?_
  refine ev_go 3 (pc1 := 28) (lv1 := [.ref 86, .int (I 88 3)]) (st1 := [.int 1, .int (I1 86 3)]) (h1 := (124, I1, J1, R)) rfl ?_
  refine ev_br (b1 := true) rfl rfl (xcd_eq (x := (I1 86 3)) (y := 1) (by rw [show ((1 : Int32)).toInt = 1 from by decide]; first | exact b2 | omega)) ?_
  refine ev_go 1 (pc1 := 38) (lv1 := [.ref 86, .int (I 88 3)]) (st1 := [.ref 86]) (h1 := (124, I1, J1, R)) rfl ?_
  refine ev_call (v1 := (some (.int z))) (h1 := (124, I1, J1, R)) rfl rfl c2 ?_
  refine ev_go 1 (pc1 := 42) (lv1 := [.ref 86, .int (I 88 3)]) (st1 := [.int (-1), .int z]) (h1 := (124, I1, J1, R)) rfl ?_
  refine ev_br (b1 := true) rfl rfl (xcd_eq (x := z) (y := (-1)) (by rw [show ((-1 : Int32)).toInt = -1 from by decide]; first | exact b3 | omega)) ?_
  refine ev_go 1 (pc1 := 52) (lv1 := [.ref 86, .int (I 88 3)]) (st1 := [.ref 86]) (h1 := (124, I1, J1, R)) rfl ?_
  refine ev_gf (c := 86) (t := 89) (X := R 86 13) rfl rfl (fun _ => rfl) rfl (hG 86 13 89 rfl rfl) ?_
  refine ev_go 3 (pc1 := 60) (lv1 := [.ref 86, .int (I 88 3)]) (st1 := [.long (J1 86 10), .int (I 88 3), .ref 89]) (h1 := (124, I1, J1, R)) rfl ?_
  refine ev_lst (n := 7) rfl rfl (fun _ => rfl) n1 m1 ?_
  refine ev_go 1 (pc1 := 62) (lv1 := [.ref 86, .int (I 88 3)]) (st1 := [.ref 86]) (h1 := (124, I1, (uL J1 89 (I 88 3).toNatClampNeg (J1 86 10)), R)) rfl ?_
  refine ev_call (v1 := none) (h1 := (124, I2, J2, R)) rfl rfl c3 ?_
  refine ev_go 3 (pc1 := 68) (lv1 := [.ref 86, .int (I 88 3)]) (st1 := [.int 3, .int 1, .ref 86]) (h1 := (124, I2, J2, R)) rfl ?_
  refine ev_call (v1 := (some (.int 0))) (h1 := (124, I3, J3, R)) rfl rfl c4 ?_
  refine ev_go 2 (pc1 := 75) (lv1 := [.ref 86, .int (I 88 3)]) (st1 := [.int 0]) (h1 := (124, I3, J3, R)) rfl ?_
  exact ev_ret rfl rfl
set_option maxRecDepth 20000 in
theorem mp_4 {L : Nat} {xs : Nat → Int32} {d : Nat} {I : Nat → Nat → Int32} {J : Nat → Nat → Int64} {R : Nat → Nat → Nat} {I1 : Nat → Nat → Int32} {J1 : Nat → Nat → Int64} {I2 : Nat → Nat → Int32} {J2 : Nat → Nat → Int64} {I3 : Nat → Nat → Int32} {J3 : Nat → Nat → Int64} {z : Int32} (hG : aGd R) (b1 : (I 88 3).toInt ≠ 7) (c1 : xEv L xs d 150 0 [.ref 86, xmk, xmk, xmk] [] (124, I, J, R) none (124, I1, J1, R)) (b2 : (I1 86 3).toInt = 1) (c2 : xEv L xs d 158 0 [.ref 86, xmk] [] (124, I1, J1, R) (some (.int z)) (124, I1, J1, R)) (b3 : z.toInt = -1) (n1 : 0 ≤ (I 88 3).toInt) (m1 : (I 88 3).toInt < 7) (c3 : xEv L xs d 150 0 [.ref 86, xmk, xmk, xmk] [] (124, I1, (uL J1 89 (I 88 3).toNatClampNeg (J1 86 10)), R) none (124, I2, J2, R)) (c4 : xEv L xs d 159 0 [.ref 86, .int 1, .int 3] [] (124, I2, J2, R) (some (.int 1)) (124, I3, J3, R)) (n2 : 0 ≤ (7 + (I 88 3)).toInt) (m2 : (7 + (I 88 3)).toInt < 14) (n3 : 0 ≤ (7 + (I 88 3)).toInt) (m3 : (7 + (I 88 3)).toInt < 14) (c5 : xEv L xs d 161 0 [.ref 86, .int 4] [] (124, (uI (uI I3 90 (7 + (I 88 3)).toNatClampNeg (I3 86 11)) 91 (7 + (I 88 3)).toNatClampNeg 0), J3, R) (some (.int 0)) (124, (uI (uI I3 90 (7 + (I 88 3)).toNatClampNeg (I3 86 11)) 91 (7 + (I 88 3)).toNatClampNeg 0), J3, R)) : xEv L xs (d + 1) 156 0 [.ref 86, xmk] [] (124, I, J, R) (some (.int 1)) (124, (uI (uI (uI I3 90 (7 + (I 88 3)).toNatClampNeg (I3 86 11)) 91 (7 + (I 88 3)).toNatClampNeg 0) 88 3 ((I3 88 3) + 1)), J3, R) := by
  refine ev_go 1 (pc1 := 1) (lv1 := [.ref 86, xmk]) (st1 := [.ref 86]) (h1 := (124, I, J, R)) rfl ?_
  refine ev_gf (c := 86) (t := 88) (X := R 86 12) rfl rfl (fun _ => rfl) rfl (hG 86 12 88 rfl rfl) ?_
  refine ev_go 5 (pc1 := 10) (lv1 := [.ref 86, .int (I 88 3)]) (st1 := [.int 7, .int (I 88 3)]) (h1 := (124, I, J, R)) rfl ?_
  refine ev_br (b1 := true) rfl rfl (xcd_ne (x := (I 88 3)) (y := 7) (by rw [show ((7 : Int32)).toInt = 7 from by decide]; first | exact b1 | omega)) ?_
  refine ev_go 1 (pc1 := 20) (lv1 := [.ref 86, .int (I 88 3)]) (st1 := [.ref 86]) (h1 := (124, I, J, R)) rfl ?_
  refine ev_call (v1 := none) (h1 := (124, I1, J1, R)) rfl rfl c1 ?_
  refine ev_go 3 (pc1 := 28) (lv1 := [.ref 86, .int (I 88 3)]) (st1 := [.int 1, .int (I1 86 3)]) (h1 := (124, I1, J1, R)) rfl ?_
  refine ev_br (b1 := true) rfl rfl (xcd_eq (x := (I1 86 3)) (y := 1) (by rw [show ((1 : Int32)).toInt = 1 from by decide]; first | exact b2 | omega)) ?_
  refine ev_go 1 (pc1 := 38) (lv1 := [.ref 86, .int (I 88 3)]) (st1 := [.ref 86]) (h1 := (124, I1, J1, R)) rfl ?_
  refine ev_call (v1 := (some (.int z))) (h1 := (124, I1, J1, R)) rfl rfl c2 ?_
  refine ev_go 1 (pc1 := 42) (lv1 := [.ref 86, .int (I 88 3)]) (st1 := [.int (-1), .int z]) (h1 := (124, I1, J1, R)) rfl ?_
  refine ev_br (b1 := true) rfl rfl (xcd_eq (x := z) (y := (-1)) (by rw [show ((-1 : Int32)).toInt = -1 from by decide]; first | exact b3 | omega)) ?_
  refine ev_go 1 (pc1 := 52) (lv1 := [.ref 86, .int (I 88 3)]) (st1 := [.ref 86]) (h1 := (124, I1, J1, R)) rfl ?_
  refine ev_gf (c := 86) (t := 89) (X := R 86 13) rfl rfl (fun _ => rfl) rfl (hG 86 13 89 rfl rfl) ?_
  refine ev_go 3 (pc1 := 60) (lv1 := [.ref 86, .int (I 88 3)]) (st1 := [.long (J1 86 10), .int (I 88 3), .ref 89]) (h1 := (124, I1, J1, R)) rfl ?_
  refine ev_lst (n := 7) rfl rfl (fun _ => rfl) n1 m1 ?_
  refine ev_go 1 (pc1 := 62) (lv1 := [.ref 86, .int (I 88 3)]) (st1 := [.ref 86]) (h1 := (124, I1, (uL J1 89 (I 88 3).toNatClampNeg (J1 86 10)), R)) rfl ?_
  refine ev_call (v1 := none) (h1 := (124, I2, J2, R)) rfl rfl c3 ?_
  refine ev_go 3 (pc1 := 68) (lv1 := [.ref 86, .int (I 88 3)]) (st1 := [.int 3, .int 1, .ref 86]) (h1 := (124, I2, J2, R)) rfl ?_
  refine ev_call (v1 := (some (.int 1))) (h1 := (124, I3, J3, R)) rfl rfl c4 ?_
  refine ev_go 2 (pc1 := 77) (lv1 := [.ref 86, .int (I 88 3)]) (st1 := [.ref 86]) (h1 := (124, I3, J3, R)) rfl ?_
  refine ev_gf (c := 86) (t := 90) (X := R 86 14) rfl rfl (fun _ => rfl) rfl (hG 86 14 90 rfl rfl) ?_
  refine ev_go 5 (pc1 := 88) (lv1 := [.ref 86, .int (I 88 3)]) (st1 := [.int (I3 86 11), .int (7 + (I 88 3)), .ref 90]) (h1 := (124, I3, J3, R)) rfl ?_
  refine ev_ist (n := 14) rfl rfl (fun _ => rfl) n2 m2 ?_
  refine ev_go 1 (pc1 := 90) (lv1 := [.ref 86, .int (I 88 3)]) (st1 := [.ref 86]) (h1 := (124, (uI I3 90 (7 + (I 88 3)).toNatClampNeg (I3 86 11)), J3, R)) rfl ?_
  refine ev_gf (c := 86) (t := 91) (X := R 86 15) rfl rfl (fun _ => rfl) rfl (hG 86 15 91 rfl rfl) ?_
  refine ev_go 4 (pc1 := 98) (lv1 := [.ref 86, .int (I 88 3)]) (st1 := [.int 0, .int (7 + (I 88 3)), .ref 91]) (h1 := (124, (uI I3 90 (7 + (I 88 3)).toNatClampNeg (I3 86 11)), J3, R)) rfl ?_
  refine ev_ist (n := 14) rfl rfl (fun _ => rfl) n3 m3 ?_
  refine ev_go 2 (pc1 := 101) (lv1 := [.ref 86, .int (I 88 3)]) (st1 := [.int 4, .ref 86]) (h1 := (124, (uI (uI I3 90 (7 + (I 88 3)).toNatClampNeg (I3 86 11)) 91 (7 + (I 88 3)).toNatClampNeg 0), J3, R)) rfl ?_
  refine ev_call (v1 := (some (.int 0))) (h1 := (124, (uI (uI I3 90 (7 + (I 88 3)).toNatClampNeg (I3 86 11)) 91 (7 + (I 88 3)).toNatClampNeg 0), J3, R)) rfl rfl c5 ?_
  refine ev_go 2 (pc1 := 138) (lv1 := [.ref 86, .int (I 88 3)]) (st1 := [.ref 86]) (h1 := (124, (uI (uI I3 90 (7 + (I 88 3)).toNatClampNeg (I3 86 11)) 91 (7 + (I 88 3)).toNatClampNeg 0), J3, R)) rfl ?_
  refine ev_gf (c := 86) (t := 88) (X := R 86 12) rfl rfl (fun _ => rfl) rfl (hG 86 12 88 rfl rfl) ?_
  refine ev_go 7 (pc1 := 148) (lv1 := [.ref 86, .int (I 88 3)]) (st1 := [.int 1]) (h1 := (124, (uI (uI (uI I3 90 (7 + (I 88 3)).toNatClampNeg (I3 86 11)) 91 (7 + (I 88 3)).toNatClampNeg 0) 88 3 ((I3 88 3) + 1)), J3, R)) rfl ?_
  exact ev_ret rfl rfl
set_option maxRecDepth 20000 in
theorem mp_5 {L : Nat} {xs : Nat → Int32} {d : Nat} {I : Nat → Nat → Int32} {J : Nat → Nat → Int64} {R : Nat → Nat → Nat} {I1 : Nat → Nat → Int32} {J1 : Nat → Nat → Int64} {I2 : Nat → Nat → Int32} {J2 : Nat → Nat → Int64} {I3 : Nat → Nat → Int32} {J3 : Nat → Nat → Int64} {I4 : Nat → Nat → Int32} {J4 : Nat → Nat → Int64} {I5 : Nat → Nat → Int32} {J5 : Nat → Nat → Int64} {z : Int32} (hG : aGd R) (b1 : (I 88 3).toInt ≠ 7) (c1 : xEv L xs d 150 0 [.ref 86, xmk, xmk, xmk] [] (124, I, J, R) none (124, I1, J1, R)) (b2 : (I1 86 3).toInt = 1) (c2 : xEv L xs d 158 0 [.ref 86, xmk] [] (124, I1, J1, R) (some (.int z)) (124, I1, J1, R)) (b3 : z.toInt = -1) (n1 : 0 ≤ (I 88 3).toInt) (m1 : (I 88 3).toInt < 7) (c3 : xEv L xs d 150 0 [.ref 86, xmk, xmk, xmk] [] (124, I1, (uL J1 89 (I 88 3).toNatClampNeg (J1 86 10)), R) none (124, I2, J2, R)) (c4 : xEv L xs d 159 0 [.ref 86, .int 1, .int 3] [] (124, I2, J2, R) (some (.int 1)) (124, I3, J3, R)) (n2 : 0 ≤ (7 + (I 88 3)).toInt) (m2 : (7 + (I 88 3)).toInt < 14) (n3 : 0 ≤ (7 + (I 88 3)).toInt) (m3 : (7 + (I 88 3)).toInt < 14) (c5 : xEv L xs d 161 0 [.ref 86, .int 4] [] (124, (uI (uI I3 90 (7 + (I 88 3)).toNatClampNeg (I3 86 11)) 91 (7 + (I 88 3)).toNatClampNeg 0), J3, R) (some (.int 1)) (124, (uI (uI I3 90 (7 + (I 88 3)).toNatClampNeg (I3 86 11)) 91 (7 + (I 88 3)).toNatClampNeg 0), J3, R)) (c6 : xEv L xs d 150 0 [.ref 86, xmk, xmk, xmk] [] (124, (uI (uI I3 90 (7 + (I 88 3)).toNatClampNeg (I3 86 11)) 91 (7 + (I 88 3)).toNatClampNeg 0), J3, R) none (124, I4, J4, R)) (c7 : xEv L xs d 159 0 [.ref 86, .int 0, .int 500] [] (124, I4, J4, R) (some (.int 0)) (124, I5, J5, R)) : xEv L xs (d + 1) 156 0 [.ref 86, xmk] [] (124, I, J, R) (some (.int 0)) (124, I5, J5, R) := by
  refine ev_go 1 (pc1 := 1) (lv1 := [.ref 86, xmk]) (st1 := [.ref 86]) (h1 := (124, I, J, R)) rfl ?_
  refine ev_gf (c := 86) (t := 88) (X := R 86 12) rfl rfl (fun _ => rfl) rfl (hG 86 12 88 rfl rfl) ?_
  refine ev_go 5 (pc1 := 10) (lv1 := [.ref 86, .int (I 88 3)]) (st1 := [.int 7, .int (I 88 3)]) (h1 := (124, I, J, R)) rfl ?_
  refine ev_br (b1 := true) rfl rfl (xcd_ne (x := (I 88 3)) (y := 7) (by rw [show ((7 : Int32)).toInt = 7 from by decide]; first | exact b1 | omega)) ?_
  refine ev_go 1 (pc1 := 20) (lv1 := [.ref 86, .int (I 88 3)]) (st1 := [.ref 86]) (h1 := (124, I, J, R)) rfl ?_
  refine ev_call (v1 := none) (h1 := (124, I1, J1, R)) rfl rfl c1 ?_
  refine ev_go 3 (pc1 := 28) (lv1 := [.ref 86, .int (I 88 3)]) (st1 := [.int 1, .int (I1 86 3)]) (h1 := (124, I1, J1, R)) rfl ?_
  refine ev_br (b1 := true) rfl rfl (xcd_eq (x := (I1 86 3)) (y := 1) (by rw [show ((1 : Int32)).toInt = 1 from by decide]; first | exact b2 | omega)) ?_
  refine ev_go 1 (pc1 := 38) (lv1 := [.ref 86, .int (I 88 3)]) (st1 := [.ref 86]) (h1 := (124, I1, J1, R)) rfl ?_
  refine ev_call (v1 := (some (.int z))) (h1 := (124, I1, J1, R)) rfl rfl c2 ?_
  refine ev_go 1 (pc1 := 42) (lv1 := [.ref 86, .int (I 88 3)]) (st1 := [.int (-1), .int z]) (h1 := (124, I1, J1, R)) rfl ?_
  refine ev_br (b1 := true) rfl rfl (xcd_eq (x := z) (y := (-1)) (by rw [show ((-1 : Int32)).toInt = -1 from by decide]; first | exact b3 | omega)) ?_
  refine ev_go 1 (pc1 := 52) (lv1 := [.ref 86, .int (I 88 3)]) (st1 := [.ref 86]) (h1 := (124, I1, J1, R)) rfl ?_
  refine ev_gf (c := 86) (t := 89) (X := R 86 13) rfl rfl (fun _ => rfl) rfl (hG 86 13 89 rfl rfl) ?_
  refine ev_go 3 (pc1 := 60) (lv1 := [.ref 86, .int (I 88 3)]) (st1 := [.long (J1 86 10), .int (I 88 3), .ref 89]) (h1 := (124, I1, J1, R)) rfl ?_
  refine ev_lst (n := 7) rfl rfl (fun _ => rfl) n1 m1 ?_
  refine ev_go 1 (pc1 := 62) (lv1 := [.ref 86, .int (I 88 3)]) (st1 := [.ref 86]) (h1 := (124, I1, (uL J1 89 (I 88 3).toNatClampNeg (J1 86 10)), R)) rfl ?_
  refine ev_call (v1 := none) (h1 := (124, I2, J2, R)) rfl rfl c3 ?_
  refine ev_go 3 (pc1 := 68) (lv1 := [.ref 86, .int (I 88 3)]) (st1 := [.int 3, .int 1, .ref 86]) (h1 := (124, I2, J2, R)) rfl ?_
  refine ev_call (v1 := (some (.int 1))) (h1 := (124, I3, J3, R)) rfl rfl c4 ?_
  refine ev_go 2 (pc1 := 77) (lv1 := [.ref 86, .int (I 88 3)]) (st1 := [.ref 86]) (h1 := (124, I3, J3, R)) rfl ?_
  refine ev_gf (c := 86) (t := 90) (X := R 86 14) rfl rfl (fun _ => rfl) rfl (hG 86 14 90 rfl rfl) ?_
  refine ev_go 5 (pc1 := 88) (lv1 := [.ref 86, .int (I 88 3)]) (st1 := [.int (I3 86 11), .int (7 + (I 88 3)), .ref 90]) (h1 := (124, I3, J3, R)) rfl ?_
  refine ev_ist (n := 14) rfl rfl (fun _ => rfl) n2 m2 ?_
  refine ev_go 1 (pc1 := 90) (lv1 := [.ref 86, .int (I 88 3)]) (st1 := [.ref 86]) (h1 := (124, (uI I3 90 (7 + (I 88 3)).toNatClampNeg (I3 86 11)), J3, R)) rfl ?_
  refine ev_gf (c := 86) (t := 91) (X := R 86 15) rfl rfl (fun _ => rfl) rfl (hG 86 15 91 rfl rfl) ?_
  refine ev_go 4 (pc1 := 98) (lv1 := [.ref 86, .int (I 88 3)]) (st1 := [.int 0, .int (7 + (I 88 3)), .ref 91]) (h1 := (124, (uI I3 90 (7 + (I 88 3)).toNatClampNeg (I3 86 11)), J3, R)) rfl ?_
  refine ev_ist (n := 14) rfl rfl (fun _ => rfl) n3 m3 ?_
  refine ev_go 2 (pc1 := 101) (lv1 := [.ref 86, .int (I 88 3)]) (st1 := [.int 4, .ref 86]) (h1 := (124, (uI (uI I3 90 (7 + (I 88 3)).toNatClampNeg (I3 86 11)) 91 (7 + (I 88 3)).toNatClampNeg 0), J3, R)) rfl ?_
  refine ev_call (v1 := (some (.int 1))) (h1 := (124, (uI (uI I3 90 (7 + (I 88 3)).toNatClampNeg (I3 86 11)) 91 (7 + (I 88 3)).toNatClampNeg 0), J3, R)) rfl rfl c5 ?_
  refine ev_go 2 (pc1 := 108) (lv1 := [.ref 86, .int (I 88 3)]) (st1 := [.ref 86]) (h1 := (124, (uI (uI I3 90 (7 + (I 88 3)).toNatClampNeg (I3 86 11)) 91 (7 + (I 88 3)).toNatClampNeg 0), J3, R)) rfl ?_
  refine ev_call (v1 := none) (h1 := (124, I4, J4, R)) rfl rfl c6 ?_
  refine ev_go 3 (pc1 := 116) (lv1 := [.ref 86, .int (I 88 3)]) (st1 := [.int 500, .int 0, .ref 86]) (h1 := (124, I4, J4, R)) rfl ?_
  refine ev_call (v1 := (some (.int 0))) (h1 := (124, I5, J5, R)) rfl rfl c7 ?_
  refine ev_go 2 (pc1 := 123) (lv1 := [.ref 86, .int (I 88 3)]) (st1 := [.int 0]) (h1 := (124, I5, J5, R)) rfl ?_
  exact ev_ret rfl rfl
set_option maxRecDepth 20000 in
theorem mp_6 {L : Nat} {xs : Nat → Int32} {d : Nat} {I : Nat → Nat → Int32} {J : Nat → Nat → Int64} {R : Nat → Nat → Nat} {I1 : Nat → Nat → Int32} {J1 : Nat → Nat → Int64} {I2 : Nat → Nat → Int32} {J2 : Nat → Nat → Int64} {I3 : Nat → Nat → Int32} {J3 : Nat → Nat → Int64} {I4 : Nat → Nat → Int32} {J4 : Nat → Nat → Int64} {I5 : Nat → Nat → Int32} {J5 : Nat → Nat → Int64} {z : Int32} (hG : aGd R) (b1 : (I 88 3).toInt ≠ 7) (c1 : xEv L xs d 150 0 [.ref 86, xmk, xmk, xmk] [] (124, I, J, R) none (124, I1, J1, R)) (b2 : (I1 86 3).toInt = 1) (c2 : xEv L xs d 158 0 [.ref 86, xmk] [] (124, I1, J1, R) (some (.int z)) (124, I1, J1, R)) (b3 : z.toInt = -1) (n1 : 0 ≤ (I 88 3).toInt) (m1 : (I 88 3).toInt < 7) (c3 : xEv L xs d 150 0 [.ref 86, xmk, xmk, xmk] [] (124, I1, (uL J1 89 (I 88 3).toNatClampNeg (J1 86 10)), R) none (124, I2, J2, R)) (c4 : xEv L xs d 159 0 [.ref 86, .int 1, .int 3] [] (124, I2, J2, R) (some (.int 1)) (124, I3, J3, R)) (n2 : 0 ≤ (7 + (I 88 3)).toInt) (m2 : (7 + (I 88 3)).toInt < 14) (n3 : 0 ≤ (7 + (I 88 3)).toInt) (m3 : (7 + (I 88 3)).toInt < 14) (c5 : xEv L xs d 161 0 [.ref 86, .int 4] [] (124, (uI (uI I3 90 (7 + (I 88 3)).toNatClampNeg (I3 86 11)) 91 (7 + (I 88 3)).toNatClampNeg 0), J3, R) (some (.int 1)) (124, (uI (uI I3 90 (7 + (I 88 3)).toNatClampNeg (I3 86 11)) 91 (7 + (I 88 3)).toNatClampNeg 0), J3, R)) (c6 : xEv L xs d 150 0 [.ref 86, xmk, xmk, xmk] [] (124, (uI (uI I3 90 (7 + (I 88 3)).toNatClampNeg (I3 86 11)) 91 (7 + (I 88 3)).toNatClampNeg 0), J3, R) none (124, I4, J4, R)) (c7 : xEv L xs d 159 0 [.ref 86, .int 0, .int 500] [] (124, I4, J4, R) (some (.int 1)) (124, I5, J5, R)) (n4 : 0 ≤ (7 + (I 88 3)).toInt) (m4 : (7 + (I 88 3)).toInt < 14) : xEv L xs (d + 1) 156 0 [.ref 86, xmk] [] (124, I, J, R) (some (.int 1)) (124, (uI (uI I5 91 (7 + (I 88 3)).toNatClampNeg (I5 86 11)) 88 3 ((I5 88 3) + 1)), J5, R) := by
  refine ev_go 1 (pc1 := 1) (lv1 := [.ref 86, xmk]) (st1 := [.ref 86]) (h1 := (124, I, J, R)) rfl ?_
  refine ev_gf (c := 86) (t := 88) (X := R 86 12) rfl rfl (fun _ => rfl) rfl (hG 86 12 88 rfl rfl) ?_
  refine ev_go 5 (pc1 := 10) (lv1 := [.ref 86, .int (I 88 3)]) (st1 := [.int 7, .int (I 88 3)]) (h1 := (124, I, J, R)) rfl ?_
  refine ev_br (b1 := true) rfl rfl (xcd_ne (x := (I 88 3)) (y := 7) (by rw [show ((7 : Int32)).toInt = 7 from by decide]; first | exact b1 | omega)) ?_
  refine ev_go 1 (pc1 := 20) (lv1 := [.ref 86, .int (I 88 3)]) (st1 := [.ref 86]) (h1 := (124, I, J, R)) rfl ?_
  refine ev_call (v1 := none) (h1 := (124, I1, J1, R)) rfl rfl c1 ?_
  refine ev_go 3 (pc1 := 28) (lv1 := [.ref 86, .int (I 88 3)]) (st1 := [.int 1, .int (I1 86 3)]) (h1 := (124, I1, J1, R)) rfl ?_
  refine ev_br (b1 := true) rfl rfl (xcd_eq (x := (I1 86 3)) (y := 1) (by rw [show ((1 : Int32)).toInt = 1 from by decide]; first | exact b2 | omega)) ?_
  refine ev_go 1 (pc1 := 38) (lv1 := [.ref 86, .int (I 88 3)]) (st1 := [.ref 86]) (h1 := (124, I1, J1, R)) rfl ?_
  refine ev_call (v1 := (some (.int z))) (h1 := (124, I1, J1, R)) rfl rfl c2 ?_
  refine ev_go 1 (pc1 := 42) (lv1 := [.ref 86, .int (I 88 3)]) (st1 := [.int (-1), .int z]) (h1 := (124, I1, J1, R)) rfl ?_
  refine ev_br (b1 := true) rfl rfl (xcd_eq (x := z) (y := (-1)) (by rw [show ((-1 : Int32)).toInt = -1 from by decide]; first | exact b3 | omega)) ?_
  refine ev_go 1 (pc1 := 52) (lv1 := [.ref 86, .int (I 88 3)]) (st1 := [.ref 86]) (h1 := (124, I1, J1, R)) rfl ?_
  refine ev_gf (c := 86) (t := 89) (X := R 86 13) rfl rfl (fun _ => rfl) rfl (hG 86 13 89 rfl rfl) ?_
  refine ev_go 3 (pc1 := 60) (lv1 := [.ref 86, .int (I 88 3)]) (st1 := [.long (J1 86 10), .int (I 88 3), .ref 89]) (h1 := (124, I1, J1, R)) rfl ?_
  refine ev_lst (n := 7) rfl rfl (fun _ => rfl) n1 m1 ?_
  refine ev_go 1 (pc1 := 62) (lv1 := [.ref 86, .int (I 88 3)]) (st1 := [.ref 86]) (h1 := (124, I1, (uL J1 89 (I 88 3).toNatClampNeg (J1 86 10)), R)) rfl ?_
  refine ev_call (v1 := none) (h1 := (124, I2, J2, R)) rfl rfl c3 ?_
  refine ev_go 3 (pc1 := 68) (lv1 := [.ref 86, .int (I 88 3)]) (st1 := [.int 3, .int 1, .ref 86]) (h1 := (124, I2, J2, R)) rfl ?_
  refine ev_call (v1 := (some (.int 1))) (h1 := (124, I3, J3, R)) rfl rfl c4 ?_
  refine ev_go 2 (pc1 := 77) (lv1 := [.ref 86, .int (I 88 3)]) (st1 := [.ref 86]) (h1 := (124, I3, J3, R)) rfl ?_
  refine ev_gf (c := 86) (t := 90) (X := R 86 14) rfl rfl (fun _ => rfl) rfl (hG 86 14 90 rfl rfl) ?_
  refine ev_go 5 (pc1 := 88) (lv1 := [.ref 86, .int (I 88 3)]) (st1 := [.int (I3 86 11), .int (7 + (I 88 3)), .ref 90]) (h1 := (124, I3, J3, R)) rfl ?_
  refine ev_ist (n := 14) rfl rfl (fun _ => rfl) n2 m2 ?_
  refine ev_go 1 (pc1 := 90) (lv1 := [.ref 86, .int (I 88 3)]) (st1 := [.ref 86]) (h1 := (124, (uI I3 90 (7 + (I 88 3)).toNatClampNeg (I3 86 11)), J3, R)) rfl ?_
  refine ev_gf (c := 86) (t := 91) (X := R 86 15) rfl rfl (fun _ => rfl) rfl (hG 86 15 91 rfl rfl) ?_
  refine ev_go 4 (pc1 := 98) (lv1 := [.ref 86, .int (I 88 3)]) (st1 := [.int 0, .int (7 + (I 88 3)), .ref 91]) (h1 := (124, (uI I3 90 (7 + (I 88 3)).toNatClampNeg (I3 86 11)), J3, R)) rfl ?_
  refine ev_ist (n := 14) rfl rfl (fun _ => rfl) n3 m3 ?_
  refine ev_go 2 (pc1 := 101) (lv1 := [.ref 86, .int (I 88 3)]) (st1 := [.int 4, .ref 86]) (h1 := (124, (uI (uI I3 90 (7 + (I 88 3)).toNatClampNeg (I3 86 11)) 91 (7 + (I 88 3)).toNatClampNeg 0), J3, R)) rfl ?_
  refine ev_call (v1 := (some (.int 1))) (h1 := (124, (uI (uI I3 90 (7 + (I 88 3)).toNatClampNeg (I3 86 11)) 91 (7 + (I 88 3)).toNatClampNeg 0), J3, R)) rfl rfl c5 ?_
  refine ev_go 2 (pc1 := 108) (lv1 := [.ref 86, .int (I 88 3)]) (st1 := [.ref 86]) (h1 := (124, (uI (uI I3 90 (7 + (I 88 3)).toNatClampNeg (I3 86 11)) 91 (7 + (I 88 3)).toNatClampNeg 0), J3, R)) rfl ?_
  refine ev_call (v1 := none) (h1 := (124, I4, J4, R)) rfl rfl c6 ?_
  refine ev_go 3 (pc1 := 116) (lv1 := [.ref 86, .int (I 88 3)]) (st1 := [.int 500, .int 0, .ref 86]) (h1 := (124, I4, J4, R)) rfl ?_
  refine ev_call (v1 := (some (.int 1))) (h1 := (124, I5, J5, R)) rfl rfl c7 ?_
  refine ev_go 2 (pc1 := 125) (lv1 := [.ref 86, .int (I 88 3)]) (st1 := [.ref 86]) (h1 := (124, I5, J5, R)) rfl ?_
  refine ev_gf (c := 86) (t := 91) (X := R 86 15) rfl rfl (fun _ => rfl) rfl (hG 86 15 91 rfl rfl) ?_
  refine ev_go 5 (pc1 := 136) (lv1 := [.ref 86, .int (I 88 3)]) (st1 := [.int (I5 86 11), .int (7 + (I 88 3)), .ref 91]) (h1 := (124, I5, J5, R)) rfl ?_
  refine ev_ist (n := 14) rfl rfl (fun _ => rfl) n4 m4 ?_
  refine ev_go 1 (pc1 := 138) (lv1 := [.ref 86, .int (I 88 3)]) (st1 := [.ref 86]) (h1 := (124, (uI I5 91 (7 + (I 88 3)).toNatClampNeg (I5 86 11)), J5, R)) rfl ?_
  refine ev_gf (c := 86) (t := 88) (X := R 86 12) rfl rfl (fun _ => rfl) rfl (hG 86 12 88 rfl rfl) ?_
  refine ev_go 7 (pc1 := 148) (lv1 := [.ref 86, .int (I 88 3)]) (st1 := [.int 1]) (h1 := (124, (uI (uI I5 91 (7 + (I 88 3)).toNatClampNeg (I5 86 11)) 88 3 ((I5 88 3) + 1)), J5, R)) rfl ?_
  exact ev_ret rfl rfl
