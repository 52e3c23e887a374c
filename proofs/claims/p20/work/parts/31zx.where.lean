set_option maxRecDepth 20000 in
theorem qx_0 {L : Nat} {xs : Nat → Int32} {d : Nat} {I : Nat → Nat → Int32} {J : Nat → Nat → Int64} {R : Nat → Nat → Nat} {a b t u z : Int32} (hG : aGd R) (c1 : xEv L xs d 168 0 [.ref 86, .int a] [] (124, I, J, R) (some (.int 0)) (124, I, J, R)) : xEv L xs (d + 1) 216 0 [.ref 86, .int a, .int b, .int t, .int u, .int z] [] (124, I, J, R) (some (.int 0)) (124, I, J, R) := by
  refine ev_go 2 (pc1 := 2) (lv1 := [.ref 86, .int a, .int b, .int t, .int u, .int z]) (st1 := [.int a, .ref 86]) (h1 := (124, I, J, R)) rfl ?_
  refine ev_call (v1 := (some (.int 0))) (h1 := (124, I, J, R)) rfl rfl c1 ?_
  refine ev_go 2 (pc1 := 53) (lv1 := [.ref 86, .int a, .int b, .int t, .int u, .int z]) (st1 := [.int 0]) (h1 := (124, I, J, R)) rfl ?_
  exact ev_ret rfl rfl
set_option maxRecDepth 20000 in
theorem qx_1 {L : Nat} {xs : Nat → Int32} {d : Nat} {I : Nat → Nat → Int32} {J : Nat → Nat → Int64} {R : Nat → Nat → Nat} {a b t u z : Int32} (hG : aGd R) (c1 : xEv L xs d 168 0 [.ref 86, .int a] [] (124, I, J, R) (some (.int 1)) (124, I, J, R)) (c2 : xEv L xs d 167 0 [.ref 86, .int b] [] (124, I, J, R) (some (.int 0)) (124, I, J, R)) : xEv L xs (d + 1) 216 0 [.ref 86, .int a, .int b, .int t, .int u, .int z] [] (124, I, J, R) (some (.int 0)) (124, I, J, R) := by
  refine ev_go 2 (pc1 := 2) (lv1 := [.ref 86, .int a, .int b, .int t, .int u, .int z]) (st1 := [.int a, .ref 86]) (h1 := (124, I, J, R)) rfl ?_
  refine ev_call (v1 := (some (.int 1))) (h1 := (124, I, J, R)) rfl rfl c1 ?_
  refine ev_go 3 (pc1 := 10) (lv1 := [.ref 86, .int a, .int b, .int t, .int u, .int z]) (st1 := [.int b, .ref 86]) (h1 := (124, I, J, R)) rfl ?_
  refine ev_call (v1 := (some (.int 0))) (h1 := (124, I, J, R)) rfl rfl c2 ?_
  refine ev_go 2 (pc1 := 53) (lv1 := [.ref 86, .int a, .int b, .int t, .int u, .int z]) (st1 := [.int 0]) (h1 := (124, I, J, R)) rfl ?_
  exact ev_ret rfl rfl
set_option maxRecDepth 20000 in
theorem qx_2 {L : Nat} {xs : Nat → Int32} {d : Nat} {I : Nat → Nat → Int32} {J : Nat → Nat → Int64} {R : Nat → Nat → Nat} {a b t u z : Int32} (hG : aGd R) (c1 : xEv L xs d 168 0 [.ref 86, .int a] [] (124, I, J, R) (some (.int 1)) (124, I, J, R)) (c2 : xEv L xs d 167 0 [.ref 86, .int b] [] (124, I, J, R) (some (.int 1)) (124, I, J, R)) (c3 : xEv L xs d 184 0 [.ref 86, .int t] [] (124, I, J, R) (some (.int 0)) (124, I, J, R)) : xEv L xs (d + 1) 216 0 [.ref 86, .int a, .int b, .int t, .int u, .int z] [] (124, I, J, R) (some (.int 0)) (124, I, J, R) := by
  refine ev_go 2 (pc1 := 2) (lv1 := [.ref 86, .int a, .int b, .int t, .int u, .int z]) (st1 := [.int a, .ref 86]) (h1 := (124, I, J, R)) rfl ?_
  refine ev_call (v1 := (some (.int 1))) (h1 := (124, I, J, R)) rfl rfl c1 ?_
  refine ev_go 3 (pc1 := 10) (lv1 := [.ref 86, .int a, .int b, .int t, .int u, .int z]) (st1 := [.int b, .ref 86]) (h1 := (124, I, J, R)) rfl ?_
  refine ev_call (v1 := (some (.int 1))) (h1 := (124, I, J, R)) rfl rfl c2 ?_
  refine ev_go 3 (pc1 := 18) (lv1 := [.ref 86, .int a, .int b, .int t, .int u, .int z]) (st1 := [.int t, .ref 86]) (h1 := (124, I, J, R)) rfl ?_
  refine ev_call (v1 := (some (.int 0))) (h1 := (124, I, J, R)) rfl rfl c3 ?_
  refine ev_go 2 (pc1 := 53) (lv1 := [.ref 86, .int a, .int b, .int t, .int u, .int z]) (st1 := [.int 0]) (h1 := (124, I, J, R)) rfl ?_
  exact ev_ret rfl rfl
set_option maxRecDepth 20000 in
theorem qx_3 {L : Nat} {xs : Nat → Int32} {d : Nat} {I : Nat → Nat → Int32} {J : Nat → Nat → Int64} {R : Nat → Nat → Nat} {a b t u z : Int32} (hG : aGd R) (c1 : xEv L xs d 168 0 [.ref 86, .int a] [] (124, I, J, R) (some (.int 1)) (124, I, J, R)) (c2 : xEv L xs d 167 0 [.ref 86, .int b] [] (124, I, J, R) (some (.int 1)) (124, I, J, R)) (c3 : xEv L xs d 184 0 [.ref 86, .int t] [] (124, I, J, R) (some (.int 1)) (124, I, J, R)) (c4 : xEv L xs d 160 0 [.int u, .int 0, .int 10] [] (124, I, J, R) (some (.int 0)) (124, I, J, R)) : xEv L xs (d + 1) 216 0 [.ref 86, .int a, .int b, .int t, .int u, .int z] [] (124, I, J, R) (some (.int 0)) (124, I, J, R) := by
  refine ev_go 2 (pc1 := 2) (lv1 := [.ref 86, .int a, .int b, .int t, .int u, .int z]) (st1 := [.int a, .ref 86]) (h1 := (124, I, J, R)) rfl ?_
  refine ev_call (v1 := (some (.int 1))) (h1 := (124, I, J, R)) rfl rfl c1 ?_
  refine ev_go 3 (pc1 := 10) (lv1 := [.ref 86, .int a, .int b, .int t, .int u, .int z]) (st1 := [.int b, .ref 86]) (h1 := (124, I, J, R)) rfl ?_
  refine ev_call (v1 := (some (.int 1))) (h1 := (124, I, J, R)) rfl rfl c2 ?_
  refine ev_go 3 (pc1 := 18) (lv1 := [.ref 86, .int a, .int b, .int t, .int u, .int z]) (st1 := [.int t, .ref 86]) (h1 := (124, I, J, R)) rfl ?_
  refine ev_call (v1 := (some (.int 1))) (h1 := (124, I, J, R)) rfl rfl c3 ?_
  refine ev_go 4 (pc1 := 29) (lv1 := [.ref 86, .int a, .int b, .int t, .int u, .int z]) (st1 := [.int 10, .int 0, .int u]) (h1 := (124, I, J, R)) rfl ?_
  refine ev_call (v1 := (some (.int 0))) (h1 := (124, I, J, R)) rfl rfl c4 ?_
  refine ev_go 2 (pc1 := 53) (lv1 := [.ref 86, .int a, .int b, .int t, .int u, .int z]) (st1 := [.int 0]) (h1 := (124, I, J, R)) rfl ?_
  exact ev_ret rfl rfl
set_option maxRecDepth 20000 in
theorem qx_4 {L : Nat} {xs : Nat → Int32} {d : Nat} {I : Nat → Nat → Int32} {J : Nat → Nat → Int64} {R : Nat → Nat → Nat} {a b t u z : Int32} (hG : aGd R) (c1 : xEv L xs d 168 0 [.ref 86, .int a] [] (124, I, J, R) (some (.int 1)) (124, I, J, R)) (c2 : xEv L xs d 167 0 [.ref 86, .int b] [] (124, I, J, R) (some (.int 1)) (124, I, J, R)) (c3 : xEv L xs d 184 0 [.ref 86, .int t] [] (124, I, J, R) (some (.int 1)) (124, I, J, R)) (c4 : xEv L xs d 160 0 [.int u, .int 0, .int 10] [] (124, I, J, R) (some (.int 1)) (124, I, J, R)) (c5 : xEv L xs d 160 0 [.int z, .int t, .int (I 86 26)] [] (124, I, J, R) (some (.int 0)) (124, I, J, R)) : xEv L xs (d + 1) 216 0 [.ref 86, .int a, .int b, .int t, .int u, .int z] [] (124, I, J, R) (some (.int 0)) (124, I, J, R) := by
  refine ev_go 2 (pc1 := 2) (lv1 := [.ref 86, .int a, .int b, .int t, .int u, .int z]) (st1 := [.int a, .ref 86]) (h1 := (124, I, J, R)) rfl ?_
  refine ev_call (v1 := (some (.int 1))) (h1 := (124, I, J, R)) rfl rfl c1 ?_
  refine ev_go 3 (pc1 := 10) (lv1 := [.ref 86, .int a, .int b, .int t, .int u, .int z]) (st1 := [.int b, .ref 86]) (h1 := (124, I, J, R)) rfl ?_
  refine ev_call (v1 := (some (.int 1))) (h1 := (124, I, J, R)) rfl rfl c2 ?_
  refine ev_go 3 (pc1 := 18) (lv1 := [.ref 86, .int a, .int b, .int t, .int u, .int z]) (st1 := [.int t, .ref 86]) (h1 := (124, I, J, R)) rfl ?_
  refine ev_call (v1 := (some (.int 1))) (h1 := (124, I, J, R)) rfl rfl c3 ?_
  refine ev_go 4 (pc1 := 29) (lv1 := [.ref 86, .int a, .int b, .int t, .int u, .int z]) (st1 := [.int 10, .int 0, .int u]) (h1 := (124, I, J, R)) rfl ?_
  refine ev_call (v1 := (some (.int 1))) (h1 := (124, I, J, R)) rfl rfl c4 ?_
  refine ev_go 5 (pc1 := 42) (lv1 := [.ref 86, .int a, .int b, .int t, .int u, .int z]) (st1 := [.int (I 86 26), .int t, .int z]) (h1 := (124, I, J, R)) rfl ?_
  refine ev_call (v1 := (some (.int 0))) (h1 := (124, I, J, R)) rfl rfl c5 ?_
  refine ev_go 2 (pc1 := 53) (lv1 := [.ref 86, .int a, .int b, .int t, .int u, .int z]) (st1 := [.int 0]) (h1 := (124, I, J, R)) rfl ?_
  exact ev_ret rfl rfl
set_option maxRecDepth 20000 in
theorem qx_5 {L : Nat} {xs : Nat → Int32} {d : Nat} {I : Nat → Nat → Int32} {J : Nat → Nat → Int64} {R : Nat → Nat → Nat} {a b t u z : Int32} (hG : aGd R) (c1 : xEv L xs d 168 0 [.ref 86, .int a] [] (124, I, J, R) (some (.int 1)) (124, I, J, R)) (c2 : xEv L xs d 167 0 [.ref 86, .int b] [] (124, I, J, R) (some (.int 1)) (124, I, J, R)) (c3 : xEv L xs d 184 0 [.ref 86, .int t] [] (124, I, J, R) (some (.int 1)) (124, I, J, R)) (c4 : xEv L xs d 160 0 [.int u, .int 0, .int 10] [] (124, I, J, R) (some (.int 1)) (124, I, J, R)) (c5 : xEv L xs d 160 0 [.int z, .int t, .int (I 86 26)] [] (124, I, J, R) (some (.int 1)) (124, I, J, R)) : xEv L xs (d + 1) 216 0 [.ref 86, .int a, .int b, .int t, .int u, .int z] [] (124, I, J, R) (some (.int 1)) (124, I, J, R) := by
  refine ev_go 2 (pc1 := 2) (lv1 := [.ref 86, .int a, .int b, .int t, .int u, .int z]) (st1 := [.int a, .ref 86]) (h1 := (124, I, J, R)) rfl ?_
  refine ev_call (v1 := (some (.int 1))) (h1 := (124, I, J, R)) rfl rfl c1 ?_
  refine ev_go 3 (pc1 := 10) (lv1 := [.ref 86, .int a, .int b, .int t, .int u, .int z]) (st1 := [.int b, .ref 86]) (h1 := (124, I, J, R)) rfl ?_
  refine ev_call (v1 := (some (.int 1))) (h1 := (124, I, J, R)) rfl rfl c2 ?_
  refine ev_go 3 (pc1 := 18) (lv1 := [.ref 86, .int a, .int b, .int t, .int u, .int z]) (st1 := [.int t, .ref 86]) (h1 := (124, I, J, R)) rfl ?_
  refine ev_call (v1 := (some (.int 1))) (h1 := (124, I, J, R)) rfl rfl c3 ?_
  refine ev_go 4 (pc1 := 29) (lv1 := [.ref 86, .int a, .int b, .int t, .int u, .int z]) (st1 := [.int 10, .int 0, .int u]) (h1 := (124, I, J, R)) rfl ?_
  refine ev_call (v1 := (some (.int 1))) (h1 := (124, I, J, R)) rfl rfl c4 ?_
  refine ev_go 5 (pc1 := 42) (lv1 := [.ref 86, .int a, .int b, .int t, .int u, .int z]) (st1 := [.int (I 86 26), .int t, .int z]) (h1 := (124, I, J, R)) rfl ?_
  refine ev_call (v1 := (some (.int 1))) (h1 := (124, I, J, R)) rfl rfl c5 ?_
  refine ev_go 3 (pc1 := 53) (lv1 := [.ref 86, .int a, .int b, .int t, .int u, .int z]) (st1 := [.int 1]) (h1 := (124, I, J, R)) rfl ?_
  exact ev_ret rfl rfl
theorem qx_run {L : Nat} {xs : Nat → Int32} {d : Nat} {I : Nat → Nat → Int32} {J : Nat → Nat → Int64} {R : Nat → Nat → Nat} (hG : aGd R) {np nn nl : Nat} (q2 : (I 88 0).toInt = np) (q6 : (I 88 2).toInt = nn) (q11 : (I 86 26).toInt = nl) (a b t u z : Int32) :
    (((0 ≤ a.toInt ∧ a.toInt < nn) ∧ (0 ≤ b.toInt ∧ b.toInt < np) ∧ 0 ≤ t.toInt ∧ (0 ≤ u.toInt ∧ u.toInt ≤ 10) ∧ t.toInt ≤ z.toInt ∧ z.toInt ≤ nl) ∧ xEv L xs (d + 2) 216 0 [.ref 86, .int a, .int b, .int t, .int u, .int z] [] (124, I, J, R) (some (.int 1)) (124, I, J, R)) ∨
    (¬ ((0 ≤ a.toInt ∧ a.toInt < nn) ∧ (0 ≤ b.toInt ∧ b.toInt < np) ∧ 0 ≤ t.toInt ∧ (0 ≤ u.toInt ∧ u.toInt ≤ 10) ∧ t.toInt ≤ z.toInt ∧ z.toInt ≤ nl) ∧ xEv L xs (d + 2) 216 0 [.ref 86, .int a, .int b, .int t, .int u, .int z] [] (124, I, J, R) (some (.int 0)) (124, I, J, R)) := by
  have e0 : (0 : Int32).toInt = 0 := by decide
  have e10 : (10 : Int32).toInt = 10 := by decide
  rcases ie_run (L := L) (xs := xs) (d := d) (I := I) (J := J) hG q6 a with ⟨ha, xa⟩ | ⟨ha, xa⟩
  rotate_left
  · exact Or.inr ⟨fun h => ha h.1, qx_0 hG xa⟩
  rcases ip_run (L := L) (xs := xs) (d := d) (I := I) (J := J) hG q2 b with ⟨hb, xb⟩ | ⟨hb, xb⟩
  rotate_left
  · exact Or.inr ⟨fun h => hb h.2.1, qx_1 hG xa xb⟩
  have i1 := in_ex (L := L) (xs := xs) (d := d) (I := I) (J := J) hG t 0 (I 86 26)
  have i2 := in_ex (L := L) (xs := xs) (d := d + 1) (I := I) (J := J) hG u 0 10
  have i3 := in_ex (L := L) (xs := xs) (d := d + 1) (I := I) (J := J) hG z t (I 86 26)
  rw [e0] at i1 i2
  rw [e10] at i2
  rcases i1 with ⟨h1, x1⟩ | ⟨h1, x1⟩
  rotate_left
  · exact Or.inr ⟨fun h => h1 ⟨h.2.2.1, by omega⟩, qx_2 hG xa xb (ah_0 hG x1)⟩
  rcases i2 with ⟨h2, x2⟩ | ⟨h2, x2⟩
  rotate_left
  · exact Or.inr ⟨fun h => h2 h.2.2.2.1, qx_3 hG xa xb (ah_1 hG x1) x2⟩
  rcases i3 with ⟨h3, x3⟩ | ⟨h3, x3⟩
  · exact Or.inl ⟨⟨ha, hb, h1.1, h2, h3.1, by omega⟩, qx_5 hG xa xb (ah_1 hG x1) x2 x3⟩
  · exact Or.inr ⟨fun h => h3 ⟨h.2.2.2.2.1, by omega⟩, qx_4 hG xa xb (ah_1 hG x1) x2 x3⟩
set_option maxRecDepth 20000 in
theorem qxw_0 {L : Nat} {xs : Nat → Int32} {d : Nat} {I : Nat → Nat → Int32} {J : Nat → Nat → Int64} {R : Nat → Nat → Nat} {a b t u z p : Int32} (hG : aGd R) (c1 : xEv L xs d 216 0 [.ref 86, .int a, .int b, .int t, .int u, .int z] [] (124, I, J, R) (some (.int 0)) (124, I, J, R)) : xEv L xs (d + 1) 215 0 [.ref 86, .int a, .int b, .int t, .int u, .int z, .int p] [] (124, I, J, R) (some (.int (-2))) (124, I, J, R) := by
  refine ev_go 6 (pc1 := 8) (lv1 := [.ref 86, .int a, .int b, .int t, .int u, .int z, .int p]) (st1 := [.int z, .int u, .int t, .int b, .int a, .ref 86]) (h1 := (124, I, J, R)) rfl ?_
  refine ev_call (v1 := (some (.int 0))) (h1 := (124, I, J, R)) rfl rfl c1 ?_
  refine ev_go 2 (pc1 := 25) (lv1 := [.ref 86, .int a, .int b, .int t, .int u, .int z, .int p]) (st1 := [.int (-2)]) (h1 := (124, I, J, R)) rfl ?_
  exact ev_ret rfl rfl
set_option maxRecDepth 20000 in
theorem qxw_1 {L : Nat} {xs : Nat → Int32} {d : Nat} {I : Nat → Nat → Int32} {J : Nat → Nat → Int64} {R : Nat → Nat → Nat} {a b t u z p : Int32} (hG : aGd R) (c1 : xEv L xs d 216 0 [.ref 86, .int a, .int b, .int t, .int u, .int z] [] (124, I, J, R) (some (.int 1)) (124, I, J, R)) (c2 : xEv L xs d 167 0 [.ref 86, .int p] [] (124, I, J, R) (some (.int 0)) (124, I, J, R)) : xEv L xs (d + 1) 215 0 [.ref 86, .int a, .int b, .int t, .int u, .int z, .int p] [] (124, I, J, R) (some (.int (-2))) (124, I, J, R) := by
  refine ev_go 6 (pc1 := 8) (lv1 := [.ref 86, .int a, .int b, .int t, .int u, .int z, .int p]) (st1 := [.int z, .int u, .int t, .int b, .int a, .ref 86]) (h1 := (124, I, J, R)) rfl ?_
  refine ev_call (v1 := (some (.int 1))) (h1 := (124, I, J, R)) rfl rfl c1 ?_
  refine ev_go 3 (pc1 := 17) (lv1 := [.ref 86, .int a, .int b, .int t, .int u, .int z, .int p]) (st1 := [.int p, .ref 86]) (h1 := (124, I, J, R)) rfl ?_
  refine ev_call (v1 := (some (.int 0))) (h1 := (124, I, J, R)) rfl rfl c2 ?_
  refine ev_go 2 (pc1 := 25) (lv1 := [.ref 86, .int a, .int b, .int t, .int u, .int z, .int p]) (st1 := [.int (-2)]) (h1 := (124, I, J, R)) rfl ?_
  exact ev_ret rfl rfl
set_option maxRecDepth 20000 in
theorem qxw_2 {L : Nat} {xs : Nat → Int32} {d : Nat} {I : Nat → Nat → Int32} {J : Nat → Nat → Int64} {R : Nat → Nat → Nat} {I1 : Nat → Nat → Int32} {J1 : Nat → Nat → Int64} {J2 : Nat → Nat → Int64} {a b t u z p r1 : Int32} (hG : aGd R) (c1 : xEv L xs d 216 0 [.ref 86, .int a, .int b, .int t, .int u, .int z] [] (124, I, J, R) (some (.int 1)) (124, I, J, R)) (c2 : xEv L xs d 167 0 [.ref 86, .int p] [] (124, I, J, R) (some (.int 1)) (124, I, J, R)) (c3 : xEv L xs d 217 0 [.ref 86, .int a, .int b, .int t, .int u, .int z, xmk, xmk, xmk, xmk, xmk, xmk, xmk] [] (124, I, J, R) none (124, I1, J1, R)) (c4 : xEv L xs d 194 0 [.ref 86, .int p, xmk, xmk, xmk] [] (124, I1, J1, R) (some (.int r1)) (124, I1, J2, R)) : xEv L xs (d + 1) 215 0 [.ref 86, .int a, .int b, .int t, .int u, .int z, .int p] [] (124, I, J, R) (some (.int r1)) (124, I1, J2, R) := by
  refine ev_go 6 (pc1 := 8) (lv1 := [.ref 86, .int a, .int b, .int t, .int u, .int z, .int p]) (st1 := [.int z, .int u, .int t, .int b, .int a, .ref 86]) (h1 := (124, I, J, R)) rfl ?_
  refine ev_call (v1 := (some (.int 1))) (h1 := (124, I, J, R)) rfl rfl c1 ?_
  refine ev_go 3 (pc1 := 17) (lv1 := [.ref 86, .int a, .int b, .int t, .int u, .int z, .int p]) (st1 := [.int p, .ref 86]) (h1 := (124, I, J, R)) rfl ?_
  refine ev_call (v1 := (some (.int 1))) (h1 := (124, I, J, R)) rfl rfl c2 ?_
  refine ev_go 7 (pc1 := 34) (lv1 := [.ref 86, .int a, .int b, .int t, .int u, .int z, .int p]) (st1 := [.int z, .int u, .int t, .int b, .int a, .ref 86]) (h1 := (124, I, J, R)) rfl ?_
  refine ev_call (v1 := none) (h1 := (124, I1, J1, R)) rfl rfl c3 ?_
  refine ev_go 2 (pc1 := 40) (lv1 := [.ref 86, .int a, .int b, .int t, .int u, .int z, .int p]) (st1 := [.int p, .ref 86]) (h1 := (124, I1, J1, R)) rfl ?_
  refine ev_call (v1 := (some (.int r1))) (h1 := (124, I1, J2, R)) rfl rfl c4 ?_
  exact ev_ret rfl rfl
set_option maxRecDepth 20000 in
theorem qxa_0 {L : Nat} {xs : Nat → Int32} {d : Nat} {I : Nat → Nat → Int32} {J : Nat → Nat → Int64} {R : Nat → Nat → Nat} {a b t u z : Int32} (hG : aGd R) (c1 : xEv L xs d 216 0 [.ref 86, .int a, .int b, .int t, .int u, .int z] [] (124, I, J, R) (some (.int 0)) (124, I, J, R)) : xEv L xs (d + 1) 218 0 [.ref 86, .int a, .int b, .int t, .int u, .int z, xmk, xmk] [] (124, I, J, R) (some (.int (-2))) (124, I, J, R) := by
  refine ev_go 6 (pc1 := 8) (lv1 := [.ref 86, .int a, .int b, .int t, .int u, .int z, xmk, xmk]) (st1 := [.int z, .int u, .int t, .int b, .int a, .ref 86]) (h1 := (124, I, J, R)) rfl ?_
  refine ev_call (v1 := (some (.int 0))) (h1 := (124, I, J, R)) rfl rfl c1 ?_
  refine ev_go 2 (pc1 := 16) (lv1 := [.ref 86, .int a, .int b, .int t, .int u, .int z, xmk, xmk]) (st1 := [.int (-2)]) (h1 := (124, I, J, R)) rfl ?_
  exact ev_ret rfl rfl
set_option maxRecDepth 20000 in
theorem qxa_s {L : Nat} {xs : Nat → Int32} {d : Nat} {I : Nat → Nat → Int32} {J : Nat → Nat → Int64} {R : Nat → Nat → Nat} {I1 : Nat → Nat → Int32} {J1 : Nat → Nat → Int64} {a b t u z : Int32} (hG : aGd R) (c1 : xEv L xs d 216 0 [.ref 86, .int a, .int b, .int t, .int u, .int z] [] (124, I, J, R) (some (.int 1)) (124, I, J, R)) (c2 : xEv L xs d 217 0 [.ref 86, .int a, .int b, .int t, .int u, .int z, xmk, xmk, xmk, xmk, xmk, xmk, xmk] [] (124, I, J, R) none (124, I1, J1, R)) {v : Option Value} {h' : xH} (hk : xEv L xs (d + 1) 218 34 [.ref 86, .int a, .int b, .int t, .int u, .int z, .int 0, .int 1] [] (124, I1, J1, R) v h') : xEv L xs (d + 1) 218 0 [.ref 86, .int a, .int b, .int t, .int u, .int z, xmk, xmk] [] (124, I, J, R) v h' := by
  refine ev_go 6 (pc1 := 8) (lv1 := [.ref 86, .int a, .int b, .int t, .int u, .int z, xmk, xmk]) (st1 := [.int z, .int u, .int t, .int b, .int a, .ref 86]) (h1 := (124, I, J, R)) rfl ?_
  refine ev_call (v1 := (some (.int 1))) (h1 := (124, I, J, R)) rfl rfl c1 ?_
  refine ev_go 7 (pc1 := 25) (lv1 := [.ref 86, .int a, .int b, .int t, .int u, .int z, xmk, xmk]) (st1 := [.int z, .int u, .int t, .int b, .int a, .ref 86]) (h1 := (124, I, J, R)) rfl ?_
  refine ev_call (v1 := none) (h1 := (124, I1, J1, R)) rfl rfl c2 ?_
  refine ev_go 4 (pc1 := 34) (lv1 := [.ref 86, .int a, .int b, .int t, .int u, .int z, .int 0, .int 1]) (st1 := []) (h1 := (124, I1, J1, R)) rfl ?_
  exact hk
set_option maxRecDepth 20000 in
theorem qxa_e {L : Nat} {xs : Nat → Int32} {d : Nat} {I : Nat → Nat → Int32} {J : Nat → Nat → Int64} {R : Nat → Nat → Nat} {a b t u z m q : Int32} (hG : aGd R) (b1 : q.toInt ≥ (I 88 0).toInt) : xEv L xs d 218 34 [.ref 86, .int a, .int b, .int t, .int u, .int z, .int m, .int q] [] (124, I, J, R) (some (.int m)) (124, I, J, R) := by
  refine ev_go 2 (pc1 := 37) (lv1 := [.ref 86, .int a, .int b, .int t, .int u, .int z, .int m, .int q]) (st1 := [.ref 86, .int q]) (h1 := (124, I, J, R)) rfl ?_
  refine ev_gf (c := 86) (t := 88) (X := R 86 12) rfl rfl (fun _ => rfl) rfl (hG 86 12 88 rfl rfl) ?_
  refine ev_go 2 (pc1 := 42) (lv1 := [.ref 86, .int a, .int b, .int t, .int u, .int z, .int m, .int q]) (st1 := [.int (I 88 0), .int q]) (h1 := (124, I, J, R)) rfl ?_
  refine ev_br (b1 := true) rfl rfl (xcd_ge (x := q) (y := (I 88 0)) (by first | exact b1 | omega)) ?_
  refine ev_go 1 (pc1 := 73) (lv1 := [.ref 86, .int a, .int b, .int t, .int u, .int z, .int m, .int q]) (st1 := [.int m]) (h1 := (124, I, J, R)) rfl ?_
  exact ev_ret rfl rfl
set_option maxRecDepth 20000 in
theorem qxa_y {L : Nat} {xs : Nat → Int32} {d : Nat} {I : Nat → Nat → Int32} {J : Nat → Nat → Int64} {R : Nat → Nat → Nat} {a b t u z m q o : Int32} (hG : aGd R) (b1 : q.toInt < (I 88 0).toInt) (c1 : xEv L xs d 191 0 [.ref 86, .int q, .int m, xmk, xmk, xmk, xmk, xmk] [] (124, I, J, R) (some (.int o)) (124, I, J, R)) (b2 : o.toInt > 0) {v : Option Value} {h' : xH} (hk : xEv L xs (d + 1) 218 34 [.ref 86, .int a, .int b, .int t, .int u, .int z, .int q, .int (q + 1)] [] (124, I, J, R) v h') : xEv L xs (d + 1) 218 34 [.ref 86, .int a, .int b, .int t, .int u, .int z, .int m, .int q] [] (124, I, J, R) v h' := by
  refine ev_go 2 (pc1 := 37) (lv1 := [.ref 86, .int a, .int b, .int t, .int u, .int z, .int m, .int q]) (st1 := [.ref 86, .int q]) (h1 := (124, I, J, R)) rfl ?_
  refine ev_gf (c := 86) (t := 88) (X := R 86 12) rfl rfl (fun _ => rfl) rfl (hG 86 12 88 rfl rfl) ?_
  refine ev_go 2 (pc1 := 42) (lv1 := [.ref 86, .int a, .int b, .int t, .int u, .int z, .int m, .int q]) (st1 := [.int (I 88 0), .int q]) (h1 := (124, I, J, R)) rfl ?_
  refine ev_br (b1 := false) rfl rfl (xcd_nge (x := q) (y := (I 88 0)) (by first | exact b1 | omega)) ?_
  refine ev_go 3 (pc1 := 50) (lv1 := [.ref 86, .int a, .int b, .int t, .int u, .int z, .int m, .int q]) (st1 := [.int m, .int q, .ref 86]) (h1 := (124, I, J, R)) rfl ?_
  refine ev_call (v1 := (some (.int o))) (h1 := (124, I, J, R)) rfl rfl c1 ?_
  refine ev_br (b1 := false) rfl rfl (xcd_nle (x := o) (y := 0) (by rw [show ((0 : Int32)).toInt = 0 from by decide]; first | exact b2 | omega)) ?_
  refine ev_go 5 (pc1 := 34) (lv1 := [.ref 86, .int a, .int b, .int t, .int u, .int z, .int q, .int (q + 1)]) (st1 := []) (h1 := (124, I, J, R)) rfl ?_
  exact hk
set_option maxRecDepth 20000 in
theorem qxa_n {L : Nat} {xs : Nat → Int32} {d : Nat} {I : Nat → Nat → Int32} {J : Nat → Nat → Int64} {R : Nat → Nat → Nat} {a b t u z m q o : Int32} (hG : aGd R) (b1 : q.toInt < (I 88 0).toInt) (c1 : xEv L xs d 191 0 [.ref 86, .int q, .int m, xmk, xmk, xmk, xmk, xmk] [] (124, I, J, R) (some (.int o)) (124, I, J, R)) (b2 : o.toInt ≤ 0) {v : Option Value} {h' : xH} (hk : xEv L xs (d + 1) 218 34 [.ref 86, .int a, .int b, .int t, .int u, .int z, .int m, .int (q + 1)] [] (124, I, J, R) v h') : xEv L xs (d + 1) 218 34 [.ref 86, .int a, .int b, .int t, .int u, .int z, .int m, .int q] [] (124, I, J, R) v h' := by
  refine ev_go 2 (pc1 := 37) (lv1 := [.ref 86, .int a, .int b, .int t, .int u, .int z, .int m, .int q]) (st1 := [.ref 86, .int q]) (h1 := (124, I, J, R)) rfl ?_
  refine ev_gf (c := 86) (t := 88) (X := R 86 12) rfl rfl (fun _ => rfl) rfl (hG 86 12 88 rfl rfl) ?_
  refine ev_go 2 (pc1 := 42) (lv1 := [.ref 86, .int a, .int b, .int t, .int u, .int z, .int m, .int q]) (st1 := [.int (I 88 0), .int q]) (h1 := (124, I, J, R)) rfl ?_
  refine ev_br (b1 := false) rfl rfl (xcd_nge (x := q) (y := (I 88 0)) (by first | exact b1 | omega)) ?_
  refine ev_go 3 (pc1 := 50) (lv1 := [.ref 86, .int a, .int b, .int t, .int u, .int z, .int m, .int q]) (st1 := [.int m, .int q, .ref 86]) (h1 := (124, I, J, R)) rfl ?_
  refine ev_call (v1 := (some (.int o))) (h1 := (124, I, J, R)) rfl rfl c1 ?_
  refine ev_br (b1 := true) rfl rfl (xcd_le (x := o) (y := 0) (by rw [show ((0 : Int32)).toInt = 0 from by decide]; first | exact b2 | omega)) ?_
  refine ev_go 4 (pc1 := 34) (lv1 := [.ref 86, .int a, .int b, .int t, .int u, .int z, .int m, .int (q + 1)]) (st1 := []) (h1 := (124, I, J, R)) rfl ?_
  exact hk
set_option maxRecDepth 20000 in
theorem qw_s_3 {L : Nat} {xs : Nat → Int32} {d : Nat} {I : Nat → Nat → Int32} {J : Nat → Nat → Int64} {R : Nat → Nat → Nat} {I1 : Nat → Nat → Int32} {J1 : Nat → Nat → Int64} {bar fr tm u z : Int32} (hG : aGd R) (c1 : xEv L xs d 70 0 [.ref 53, .int fr, .int (2 * (z - tm))] [] (124, I, J, R) none (124, I1, J1, R)) {v : Option Value} {h' : xH} (hk : xEv L xs (d + 1) 113 16 [.ref 53, .ref 17, .int bar, .int fr, .int tm, .int u, .int z, .int tm, xmk, xmk, xmk] [] (124, I1, J1, R) v h') : xEv L xs (d + 1) 113 0 [.ref 53, .ref 17, .int bar, .int fr, .int tm, .int u, .int z, xmk, xmk, xmk, xmk] [] (124, I, J, R) v h' := by
  refine ev_go 7 (pc1 := 9) (lv1 := [.ref 53, .ref 17, .int bar, .int fr, .int tm, .int u, .int z, xmk, xmk, xmk, xmk]) (st1 := [.int (2 * (z - tm)), .int fr, .ref 53]) (h1 := (124, I, J, R)) rfl ?_
  refine ev_call (v1 := none) (h1 := (124, I1, J1, R)) rfl rfl c1 ?_
  refine ev_go 2 (pc1 := 16) (lv1 := [.ref 53, .ref 17, .int bar, .int fr, .int tm, .int u, .int z, .int tm, xmk, xmk, xmk]) (st1 := []) (h1 := (124, I1, J1, R)) rfl ?_
  exact hk
set_option maxRecDepth 20000 in
theorem qw_e_3 {L : Nat} {xs : Nat → Int32} {d : Nat} {I : Nat → Nat → Int32} {J : Nat → Nat → Int64} {R : Nat → Nat → Nat} {bar fr tm u z i : Int32} {w8 w9 wa : Value} (hG : aGd R) (b1 : i.toInt ≥ z.toInt) : xEv L xs d 113 16 [.ref 53, .ref 17, .int bar, .int fr, .int tm, .int u, .int z, .int i, w8, w9, wa] [] (124, I, J, R) none (124, I, J, R) := by
  refine ev_go 2 (pc1 := 20) (lv1 := [.ref 53, .ref 17, .int bar, .int fr, .int tm, .int u, .int z, .int i, w8, w9, wa]) (st1 := [.int z, .int i]) (h1 := (124, I, J, R)) rfl ?_
  refine ev_br (b1 := true) rfl rfl (xcd_ge (x := i) (y := z) (by first | exact b1 | omega)) ?_
  exact ev_ret rfl rfl
set_option maxRecDepth 20000 in
theorem qw_00_3 {L : Nat} {xs : Nat → Int32} {d : Nat} {I : Nat → Nat → Int32} {J : Nat → Nat → Int64} {R : Nat → Nat → Nat} {J1 : Nat → Nat → Int64} {J2 : Nat → Nat → Int64} {J3 : Nat → Nat → Int64} {J4 : Nat → Nat → Int64} {J5 : Nat → Nat → Int64} {J6 : Nat → Nat → Int64} {J7 : Nat → Nat → Int64} {J8 : Nat → Nat → Int64} {bar fr tm u z i a b c : Int32} {w8 w9 wa : Value} (hG : aGd R) (b1 : i.toInt < z.toInt) (c1 : xEv L xs d 39 0 [.ref 20, .int i] [] (124, I, J, R) (some (.int a)) (124, I, J, R)) (c2 : xEv L xs d 39 0 [.ref 21, .int i] [] (124, I, J, R) (some (.int b)) (124, I, J, R)) (c3 : xEv L xs d 39 0 [.ref 22, .int i] [] (124, I, J, R) (some (.int c)) (124, I, J, R)) (c4 : xEv L xs d 75 0 [.ref 53, .int a, .int 7] [] (124, I, J, R) none (124, I, J1, R)) (b2 : ((bar >>> (b &&& 31)) &&& 1).toInt = 0) (c5 : xEv L xs d 77 0 [.ref 53, .int 7, .int (c * u), .int 100, xmk, xmk, xmk, xmk, xmk, xmk, xmk] [] (124, I, J1, R) none (124, I, J2, R)) (c6 : xEv L xs d 75 0 [.ref 53, .int b, .int 8] [] (124, I, J2, R) none (124, I, J3, R)) (b3 : ((bar >>> (a &&& 31)) &&& 1).toInt = 0) (c7 : xEv L xs d 77 0 [.ref 53, .int 8, .int (c * u), .int 100, xmk, xmk, xmk, xmk, xmk, xmk, xmk] [] (124, I, J3, R) none (124, I, J4, R)) (c8 : xEv L xs d 76 0 [.ref 53, .int 7, .int a, xmk, xmk, xmk, xmk, xmk] [] (124, I, J4, R) none (124, I, J5, R)) (c9 : xEv L xs d 78 0 [.ref 53, .int 8, .int a, xmk, xmk, xmk, xmk, xmk] [] (124, I, J5, R) none (124, I, J6, R)) (c10 : xEv L xs d 76 0 [.ref 53, .int 8, .int b, xmk, xmk, xmk, xmk, xmk] [] (124, I, J6, R) none (124, I, J7, R)) (c11 : xEv L xs d 78 0 [.ref 53, .int 7, .int b, xmk, xmk, xmk, xmk, xmk] [] (124, I, J7, R) none (124, I, J8, R)) {v : Option Value} {h' : xH} (hk : xEv L xs (d + 1) 113 16 [.ref 53, .ref 17, .int bar, .int fr, .int tm, .int u, .int z, .int (i + 1), .int a, .int b, .int (c * u)] [] (124, I, J8, R) v h') : xEv L xs (d + 1) 113 16 [.ref 53, .ref 17, .int bar, .int fr, .int tm, .int u, .int z, .int i, w8, w9, wa] [] (124, I, J, R) v h' := by
  refine ev_go 2 (pc1 := 20) (lv1 := [.ref 53, .ref 17, .int bar, .int fr, .int tm, .int u, .int z, .int i, w8, w9, wa]) (st1 := [.int z, .int i]) (h1 := (124, I, J, R)) rfl ?_
  refine ev_br (b1 := false) rfl rfl (xcd_nge (x := i) (y := z) (by first | exact b1 | omega)) ?_
  refine ev_go 1 (pc1 := 24) (lv1 := [.ref 53, .ref 17, .int bar, .int fr, .int tm, .int u, .int z, .int i, w8, w9, wa]) (st1 := [.ref 17]) (h1 := (124, I, J, R)) rfl ?_
  refine ev_gf (c := 17) (t := 20) (X := R 17 2) rfl rfl (fun _ => rfl) rfl (hG 17 2 20 rfl rfl) ?_
  refine ev_go 1 (pc1 := 29) (lv1 := [.ref 53, .ref 17, .int bar, .int fr, .int tm, .int u, .int z, .int i, w8, w9, wa]) (st1 := [.int i, .ref 20]) (h1 := (124, I, J, R)) rfl ?_
  refine ev_call (v1 := (some (.int a))) (h1 := (124, I, J, R)) rfl rfl c1 ?_
  refine ev_go 2 (pc1 := 35) (lv1 := [.ref 53, .ref 17, .int bar, .int fr, .int tm, .int u, .int z, .int i, .int a, w9, wa]) (st1 := [.ref 17]) (h1 := (124, I, J, R)) rfl ?_
  refine ev_gf (c := 17) (t := 21) (X := R 17 3) rfl rfl (fun _ => rfl) rfl (hG 17 3 21 rfl rfl) ?_
  refine ev_go 1 (pc1 := 40) (lv1 := [.ref 53, .ref 17, .int bar, .int fr, .int tm, .int u, .int z, .int i, .int a, w9, wa]) (st1 := [.int i, .ref 21]) (h1 := (124, I, J, R)) rfl ?_
  refine ev_call (v1 := (some (.int b))) (h1 := (124, I, J, R)) rfl rfl c2 ?_
  refine ev_go 2 (pc1 := 46) (lv1 := [.ref 53, .ref 17, .int bar, .int fr, .int tm, .int u, .int z, .int i, .int a, .int b, wa]) (st1 := [.ref 17]) (h1 := (124, I, J, R)) rfl ?_
  refine ev_gf (c := 17) (t := 22) (X := R 17 4) rfl rfl (fun _ => rfl) rfl (hG 17 4 22 rfl rfl) ?_
  refine ev_go 1 (pc1 := 51) (lv1 := [.ref 53, .ref 17, .int bar, .int fr, .int tm, .int u, .int z, .int i, .int a, .int b, wa]) (st1 := [.int i, .ref 22]) (h1 := (124, I, J, R)) rfl ?_
  refine ev_call (v1 := (some (.int c))) (h1 := (124, I, J, R)) rfl rfl c3 ?_
  refine ev_go 6 (pc1 := 64) (lv1 := [.ref 53, .ref 17, .int bar, .int fr, .int tm, .int u, .int z, .int i, .int a, .int b, .int (c * u)]) (st1 := [.int 7, .int a, .ref 53]) (h1 := (124, I, J, R)) rfl ?_
  refine ev_call (v1 := none) (h1 := (124, I, J1, R)) rfl rfl c4 ?_
  refine ev_go 4 (pc1 := 73) (lv1 := [.ref 53, .ref 17, .int bar, .int fr, .int tm, .int u, .int z, .int i, .int a, .int b, .int (c * u)]) (st1 := [.int b, .int bar, .int 7, .ref 53]) (h1 := (124, I, J1, R)) rfl ?_
  refine ev_go 3 (pc1 := 76) (lv1 := [.ref 53, .ref 17, .int bar, .int fr, .int tm, .int u, .int z, .int i, .int a, .int b, .int (c * u)]) (st1 := [.int ((bar >>> (b &&& 31)) &&& 1), .int 7, .ref 53]) (h1 := (124, I, J1, R)) rfl ?_
  refine ev_br (b1 := false) rfl rfl (xcd_nne (x := ((bar >>> (b &&& 31)) &&& 1)) (y := 0) (by rw [show ((0 : Int32)).toInt = 0 from by decide]; first | exact b2 | omega)) ?_
  refine ev_go 3 (pc1 := 87) (lv1 := [.ref 53, .ref 17, .int bar, .int fr, .int tm, .int u, .int z, .int i, .int a, .int b, .int (c * u)]) (st1 := [.int 100, .int (c * u), .int 7, .ref 53]) (h1 := (124, I, J1, R)) rfl ?_
  refine ev_call (v1 := none) (h1 := (124, I, J2, R)) rfl rfl c5 ?_
  refine ev_go 3 (pc1 := 95) (lv1 := [.ref 53, .ref 17, .int bar, .int fr, .int tm, .int u, .int z, .int i, .int a, .int b, .int (c * u)]) (st1 := [.int 8, .int b, .ref 53]) (h1 := (124, I, J2, R)) rfl ?_
  refine ev_call (v1 := none) (h1 := (124, I, J3, R)) rfl rfl c6 ?_
  refine ev_go 4 (pc1 := 104) (lv1 := [.ref 53, .ref 17, .int bar, .int fr, .int tm, .int u, .int z, .int i, .int a, .int b, .int (c * u)]) (st1 := [.int a, .int bar, .int 8, .ref 53]) (h1 := (124, I, J3, R)) rfl ?_
  refine ev_go 3 (pc1 := 107) (lv1 := [.ref 53, .ref 17, .int bar, .int fr, .int tm, .int u, .int z, .int i, .int a, .int b, .int (c * u)]) (st1 := [.int ((bar >>> (a &&& 31)) &&& 1), .int 8, .ref 53]) (h1 := (124, I, J3, R)) rfl ?_
  refine ev_br (b1 := false) rfl rfl (xcd_nne (x := ((bar >>> (a &&& 31)) &&& 1)) (y := 0) (by rw [show ((0 : Int32)).toInt = 0 from by decide]; first | exact b3 | omega)) ?_
  refine ev_go 3 (pc1 := 118) (lv1 := [.ref 53, .ref 17, .int bar, .int fr, .int tm, .int u, .int z, .int i, .int a, .int b, .int (c * u)]) (st1 := [.int 100, .int (c * u), .int 8, .ref 53]) (h1 := (124, I, J3, R)) rfl ?_
  refine ev_call (v1 := none) (h1 := (124, I, J4, R)) rfl rfl c7 ?_
  refine ev_go 3 (pc1 := 126) (lv1 := [.ref 53, .ref 17, .int bar, .int fr, .int tm, .int u, .int z, .int i, .int a, .int b, .int (c * u)]) (st1 := [.int a, .int 7, .ref 53]) (h1 := (124, I, J4, R)) rfl ?_
  refine ev_call (v1 := none) (h1 := (124, I, J5, R)) rfl rfl c8 ?_
  refine ev_go 3 (pc1 := 134) (lv1 := [.ref 53, .ref 17, .int bar, .int fr, .int tm, .int u, .int z, .int i, .int a, .int b, .int (c * u)]) (st1 := [.int a, .int 8, .ref 53]) (h1 := (124, I, J5, R)) rfl ?_
  refine ev_call (v1 := none) (h1 := (124, I, J6, R)) rfl rfl c9 ?_
  refine ev_go 3 (pc1 := 142) (lv1 := [.ref 53, .ref 17, .int bar, .int fr, .int tm, .int u, .int z, .int i, .int a, .int b, .int (c * u)]) (st1 := [.int b, .int 8, .ref 53]) (h1 := (124, I, J6, R)) rfl ?_
  refine ev_call (v1 := none) (h1 := (124, I, J7, R)) rfl rfl c10 ?_
  refine ev_go 3 (pc1 := 150) (lv1 := [.ref 53, .ref 17, .int bar, .int fr, .int tm, .int u, .int z, .int i, .int a, .int b, .int (c * u)]) (st1 := [.int b, .int 7, .ref 53]) (h1 := (124, I, J7, R)) rfl ?_
  refine ev_call (v1 := none) (h1 := (124, I, J8, R)) rfl rfl c11 ?_
  refine ev_go 2 (pc1 := 16) (lv1 := [.ref 53, .ref 17, .int bar, .int fr, .int tm, .int u, .int z, .int (i + 1), .int a, .int b, .int (c * u)]) (st1 := []) (h1 := (124, I, J8, R)) rfl ?_
  exact hk
set_option maxRecDepth 20000 in
theorem qw_01_3 {L : Nat} {xs : Nat → Int32} {d : Nat} {I : Nat → Nat → Int32} {J : Nat → Nat → Int64} {R : Nat → Nat → Nat} {J1 : Nat → Nat → Int64} {J2 : Nat → Nat → Int64} {J3 : Nat → Nat → Int64} {J4 : Nat → Nat → Int64} {J5 : Nat → Nat → Int64} {J6 : Nat → Nat → Int64} {J7 : Nat → Nat → Int64} {J8 : Nat → Nat → Int64} {bar fr tm u z i a b c : Int32} {w8 w9 wa : Value} (hG : aGd R) (b1 : i.toInt < z.toInt) (c1 : xEv L xs d 39 0 [.ref 20, .int i] [] (124, I, J, R) (some (.int a)) (124, I, J, R)) (c2 : xEv L xs d 39 0 [.ref 21, .int i] [] (124, I, J, R) (some (.int b)) (124, I, J, R)) (c3 : xEv L xs d 39 0 [.ref 22, .int i] [] (124, I, J, R) (some (.int c)) (124, I, J, R)) (c4 : xEv L xs d 75 0 [.ref 53, .int a, .int 7] [] (124, I, J, R) none (124, I, J1, R)) (b2 : ((bar >>> (b &&& 31)) &&& 1).toInt = 0) (c5 : xEv L xs d 77 0 [.ref 53, .int 7, .int (c * u), .int 100, xmk, xmk, xmk, xmk, xmk, xmk, xmk] [] (124, I, J1, R) none (124, I, J2, R)) (c6 : xEv L xs d 75 0 [.ref 53, .int b, .int 8] [] (124, I, J2, R) none (124, I, J3, R)) (b3 : ((bar >>> (a &&& 31)) &&& 1).toInt ≠ 0) (c7 : xEv L xs d 77 0 [.ref 53, .int 8, .int 0, .int 100, xmk, xmk, xmk, xmk, xmk, xmk, xmk] [] (124, I, J3, R) none (124, I, J4, R)) (c8 : xEv L xs d 76 0 [.ref 53, .int 7, .int a, xmk, xmk, xmk, xmk, xmk] [] (124, I, J4, R) none (124, I, J5, R)) (c9 : xEv L xs d 78 0 [.ref 53, .int 8, .int a, xmk, xmk, xmk, xmk, xmk] [] (124, I, J5, R) none (124, I, J6, R)) (c10 : xEv L xs d 76 0 [.ref 53, .int 8, .int b, xmk, xmk, xmk, xmk, xmk] [] (124, I, J6, R) none (124, I, J7, R)) (c11 : xEv L xs d 78 0 [.ref 53, .int 7, .int b, xmk, xmk, xmk, xmk, xmk] [] (124, I, J7, R) none (124, I, J8, R)) {v : Option Value} {h' : xH} (hk : xEv L xs (d + 1) 113 16 [.ref 53, .ref 17, .int bar, .int fr, .int tm, .int u, .int z, .int (i + 1), .int a, .int b, .int (c * u)] [] (124, I, J8, R) v h') : xEv L xs (d + 1) 113 16 [.ref 53, .ref 17, .int bar, .int fr, .int tm, .int u, .int z, .int i, w8, w9, wa] [] (124, I, J, R) v h' := by
  refine ev_go 2 (pc1 := 20) (lv1 := [.ref 53, .ref 17, .int bar, .int fr, .int tm, .int u, .int z, .int i, w8, w9, wa]) (st1 := [.int z, .int i]) (h1 := (124, I, J, R)) rfl ?_
  refine ev_br (b1 := false) rfl rfl (xcd_nge (x := i) (y := z) (by first | exact b1 | omega)) ?_
  refine ev_go 1 (pc1 := 24) (lv1 := [.ref 53, .ref 17, .int bar, .int fr, .int tm, .int u, .int z, .int i, w8, w9, wa]) (st1 := [.ref 17]) (h1 := (124, I, J, R)) rfl ?_
  refine ev_gf (c := 17) (t := 20) (X := R 17 2) rfl rfl (fun _ => rfl) rfl (hG 17 2 20 rfl rfl) ?_
  refine ev_go 1 (pc1 := 29) (lv1 := [.ref 53, .ref 17, .int bar, .int fr, .int tm, .int u, .int z, .int i, w8, w9, wa]) (st1 := [.int i, .ref 20]) (h1 := (124, I, J, R)) rfl ?_
  refine ev_call (v1 := (some (.int a))) (h1 := (124, I, J, R)) rfl rfl c1 ?_
  refine ev_go 2 (pc1 := 35) (lv1 := [.ref 53, .ref 17, .int bar, .int fr, .int tm, .int u, .int z, .int i, .int a, w9, wa]) (st1 := [.ref 17]) (h1 := (124, I, J, R)) rfl ?_
  refine ev_gf (c := 17) (t := 21) (X := R 17 3) rfl rfl (fun _ => rfl) rfl (hG 17 3 21 rfl rfl) ?_
  refine ev_go 1 (pc1 := 40) (lv1 := [.ref 53, .ref 17, .int bar, .int fr, .int tm, .int u, .int z, .int i, .int a, w9, wa]) (st1 := [.int i, .ref 21]) (h1 := (124, I, J, R)) rfl ?_
  refine ev_call (v1 := (some (.int b))) (h1 := (124, I, J, R)) rfl rfl c2 ?_
  refine ev_go 2 (pc1 := 46) (lv1 := [.ref 53, .ref 17, .int bar, .int fr, .int tm, .int u, .int z, .int i, .int a, .int b, wa]) (st1 := [.ref 17]) (h1 := (124, I, J, R)) rfl ?_
  refine ev_gf (c := 17) (t := 22) (X := R 17 4) rfl rfl (fun _ => rfl) rfl (hG 17 4 22 rfl rfl) ?_
  refine ev_go 1 (pc1 := 51) (lv1 := [.ref 53, .ref 17, .int bar, .int fr, .int tm, .int u, .int z, .int i, .int a, .int b, wa]) (st1 := [.int i, .ref 22]) (h1 := (124, I, J, R)) rfl ?_
  refine ev_call (v1 := (some (.int c))) (h1 := (124, I, J, R)) rfl rfl c3 ?_
  refine ev_go 6 (pc1 := 64) (lv1 := [.ref 53, .ref 17, .int bar, .int fr, .int tm, .int u, .int z, .int i, .int a, .int b, .int (c * u)]) (st1 := [.int 7, .int a, .ref 53]) (h1 := (124, I, J, R)) rfl ?_
  refine ev_call (v1 := none) (h1 := (124, I, J1, R)) rfl rfl c4 ?_
  refine ev_go 4 (pc1 := 73) (lv1 := [.ref 53, .ref 17, .int bar, .int fr, .int tm, .int u, .int z, .int i, .int a, .int b, .int (c * u)]) (st1 := [.int b, .int bar, .int 7, .ref 53]) (h1 := (124, I, J1, R)) rfl ?_
  refine ev_go 3 (pc1 := 76) (lv1 := [.ref 53, .ref 17, .int bar, .int fr, .int tm, .int u, .int z, .int i, .int a, .int b, .int (c * u)]) (st1 := [.int ((bar >>> (b &&& 31)) &&& 1), .int 7, .ref 53]) (h1 := (124, I, J1, R)) rfl ?_
  refine ev_br (b1 := false) rfl rfl (xcd_nne (x := ((bar >>> (b &&& 31)) &&& 1)) (y := 0) (by rw [show ((0 : Int32)).toInt = 0 from by decide]; first | exact b2 | omega)) ?_
  refine ev_go 3 (pc1 := 87) (lv1 := [.ref 53, .ref 17, .int bar, .int fr, .int tm, .int u, .int z, .int i, .int a, .int b, .int (c * u)]) (st1 := [.int 100, .int (c * u), .int 7, .ref 53]) (h1 := (124, I, J1, R)) rfl ?_
  refine ev_call (v1 := none) (h1 := (124, I, J2, R)) rfl rfl c5 ?_
  refine ev_go 3 (pc1 := 95) (lv1 := [.ref 53, .ref 17, .int bar, .int fr, .int tm, .int u, .int z, .int i, .int a, .int b, .int (c * u)]) (st1 := [.int 8, .int b, .ref 53]) (h1 := (124, I, J2, R)) rfl ?_
  refine ev_call (v1 := none) (h1 := (124, I, J3, R)) rfl rfl c6 ?_
  refine ev_go 4 (pc1 := 104) (lv1 := [.ref 53, .ref 17, .int bar, .int fr, .int tm, .int u, .int z, .int i, .int a, .int b, .int (c * u)]) (st1 := [.int a, .int bar, .int 8, .ref 53]) (h1 := (124, I, J3, R)) rfl ?_
  refine ev_go 3 (pc1 := 107) (lv1 := [.ref 53, .ref 17, .int bar, .int fr, .int tm, .int u, .int z, .int i, .int a, .int b, .int (c * u)]) (st1 := [.int ((bar >>> (a &&& 31)) &&& 1), .int 8, .ref 53]) (h1 := (124, I, J3, R)) rfl ?_
  refine ev_br (b1 := true) rfl rfl (xcd_ne (x := ((bar >>> (a &&& 31)) &&& 1)) (y := 0) (by rw [show ((0 : Int32)).toInt = 0 from by decide]; first | exact b3 | omega)) ?_
  refine ev_go 2 (pc1 := 118) (lv1 := [.ref 53, .ref 17, .int bar, .int fr, .int tm, .int u, .int z, .int i, .int a, .int b, .int (c * u)]) (st1 := [.int 100, .int 0, .int 8, .ref 53]) (h1 := (124, I, J3, R)) rfl ?_
  refine ev_call (v1 := none) (h1 := (124, I, J4, R)) rfl rfl c7 ?_
  refine ev_go 3 (pc1 := 126) (lv1 := [.ref 53, .ref 17, .int bar, .int fr, .int tm, .int u, .int z, .int i, .int a, .int b, .int (c * u)]) (st1 := [.int a, .int 7, .ref 53]) (h1 := (124, I, J4, R)) rfl ?_
  refine ev_call (v1 := none) (h1 := (124, I, J5, R)) rfl rfl c8 ?_
  refine ev_go 3 (pc1 := 134) (lv1 := [.ref 53, .ref 17, .int bar, .int fr, .int tm, .int u, .int z, .int i, .int a, .int b, .int (c * u)]) (st1 := [.int a, .int 8, .ref 53]) (h1 := (124, I, J5, R)) rfl ?_
  refine ev_call (v1 := none) (h1 := (124, I, J6, R)) rfl rfl c9 ?_
  refine ev_go 3 (pc1 := 142) (lv1 := [.ref 53, .ref 17, .int bar, .int fr, .int tm, .int u, .int z, .int i, .int a, .int b, .int (c * u)]) (st1 := [.int b, .int 8, .ref 53]) (h1 := (124, I, J6, R)) rfl ?_
  refine ev_call (v1 := none) (h1 := (124, I, J7, R)) rfl rfl c10 ?_
  refine ev_go 3 (pc1 := 150) (lv1 := [.ref 53, .ref 17, .int bar, .int fr, .int tm, .int u, .int z, .int i, .int a, .int b, .int (c * u)]) (st1 := [.int b, .int 7, .ref 53]) (h1 := (124, I, J7, R)) rfl ?_
  refine ev_call (v1 := none) (h1 := (124, I, J8, R)) rfl rfl c11 ?_
  refine ev_go 2 (pc1 := 16) (lv1 := [.ref 53, .ref 17, .int bar, .int fr, .int tm, .int u, .int z, .int (i + 1), .int a, .int b, .int (c * u)]) (st1 := []) (h1 := (124, I, J8, R)) rfl ?_
  exact hk
set_option maxRecDepth 20000 in
theorem qw_10_3 {L : Nat} {xs : Nat → Int32} {d : Nat} {I : Nat → Nat → Int32} {J : Nat → Nat → Int64} {R : Nat → Nat → Nat} {J1 : Nat → Nat → Int64} {J2 : Nat → Nat → Int64} {J3 : Nat → Nat → Int64} {J4 : Nat → Nat → Int64} {J5 : Nat → Nat → Int64} {J6 : Nat → Nat → Int64} {J7 : Nat → Nat → Int64} {J8 : Nat → Nat → Int64} {bar fr tm u z i a b c : Int32} {w8 w9 wa : Value} (hG : aGd R) (b1 : i.toInt < z.toInt) (c1 : xEv L xs d 39 0 [.ref 20, .int i] [] (124, I, J, R) (some (.int a)) (124, I, J, R)) (c2 : xEv L xs d 39 0 [.ref 21, .int i] [] (124, I, J, R) (some (.int b)) (124, I, J, R)) (c3 : xEv L xs d 39 0 [.ref 22, .int i] [] (124, I, J, R) (some (.int c)) (124, I, J, R)) (c4 : xEv L xs d 75 0 [.ref 53, .int a, .int 7] [] (124, I, J, R) none (124, I, J1, R)) (b2 : ((bar >>> (b &&& 31)) &&& 1).toInt ≠ 0) (c5 : xEv L xs d 77 0 [.ref 53, .int 7, .int 0, .int 100, xmk, xmk, xmk, xmk, xmk, xmk, xmk] [] (124, I, J1, R) none (124, I, J2, R)) (c6 : xEv L xs d 75 0 [.ref 53, .int b, .int 8] [] (124, I, J2, R) none (124, I, J3, R)) (b3 : ((bar >>> (a &&& 31)) &&& 1).toInt = 0) (c7 : xEv L xs d 77 0 [.ref 53, .int 8, .int (c * u), .int 100, xmk, xmk, xmk, xmk, xmk, xmk, xmk] [] (124, I, J3, R) none (124, I, J4, R)) (c8 : xEv L xs d 76 0 [.ref 53, .int 7, .int a, xmk, xmk, xmk, xmk, xmk] [] (124, I, J4, R) none (124, I, J5, R)) (c9 : xEv L xs d 78 0 [.ref 53, .int 8, .int a, xmk, xmk, xmk, xmk, xmk] [] (124, I, J5, R) none (124, I, J6, R)) (c10 : xEv L xs d 76 0 [.ref 53, .int 8, .int b, xmk, xmk, xmk, xmk, xmk] [] (124, I, J6, R) none (124, I, J7, R)) (c11 : xEv L xs d 78 0 [.ref 53, .int 7, .int b, xmk, xmk, xmk, xmk, xmk] [] (124, I, J7, R) none (124, I, J8, R)) {v : Option Value} {h' : xH} (hk : xEv L xs (d + 1) 113 16 [.ref 53, .ref 17, .int bar, .int fr, .int tm, .int u, .int z, .int (i + 1), .int a, .int b, .int (c * u)] [] (124, I, J8, R) v h') : xEv L xs (d + 1) 113 16 [.ref 53, .ref 17, .int bar, .int fr, .int tm, .int u, .int z, .int i, w8, w9, wa] [] (124, I, J, R) v h' := by
  refine ev_go 2 (pc1 := 20) (lv1 := [.ref 53, .ref 17, .int bar, .int fr, .int tm, .int u, .int z, .int i, w8, w9, wa]) (st1 := [.int z, .int i]) (h1 := (124, I, J, R)) rfl ?_
  refine ev_br (b1 := false) rfl rfl (xcd_nge (x := i) (y := z) (by first | exact b1 | omega)) ?_
  refine ev_go 1 (pc1 := 24) (lv1 := [.ref 53, .ref 17, .int bar, .int fr, .int tm, .int u, .int z, .int i, w8, w9, wa]) (st1 := [.ref 17]) (h1 := (124, I, J, R)) rfl ?_
  refine ev_gf (c := 17) (t := 20) (X := R 17 2) rfl rfl (fun _ => rfl) rfl (hG 17 2 20 rfl rfl) ?_
  refine ev_go 1 (pc1 := 29) (lv1 := [.ref 53, .ref 17, .int bar, .int fr, .int tm, .int u, .int z, .int i, w8, w9, wa]) (st1 := [.int i, .ref 20]) (h1 := (124, I, J, R)) rfl ?_
  refine ev_call (v1 := (some (.int a))) (h1 := (124, I, J, R)) rfl rfl c1 ?_
  refine ev_go 2 (pc1 := 35) (lv1 := [.ref 53, .ref 17, .int bar, .int fr, .int tm, .int u, .int z, .int i, .int a, w9, wa]) (st1 := [.ref 17]) (h1 := (124, I, J, R)) rfl ?_
  refine ev_gf (c := 17) (t := 21) (X := R 17 3) rfl rfl (fun _ => rfl) rfl (hG 17 3 21 rfl rfl) ?_
  refine ev_go 1 (pc1 := 40) (lv1 := [.ref 53, .ref 17, .int bar, .int fr, .int tm, .int u, .int z, .int i, .int a, w9, wa]) (st1 := [.int i, .ref 21]) (h1 := (124, I, J, R)) rfl ?_
  refine ev_call (v1 := (some (.int b))) (h1 := (124, I, J, R)) rfl rfl c2 ?_
  refine ev_go 2 (pc1 := 46) (lv1 := [.ref 53, .ref 17, .int bar, .int fr, .int tm, .int u, .int z, .int i, .int a, .int b, wa]) (st1 := [.ref 17]) (h1 := (124, I, J, R)) rfl ?_
  refine ev_gf (c := 17) (t := 22) (X := R 17 4) rfl rfl (fun _ => rfl) rfl (hG 17 4 22 rfl rfl) ?_
  refine ev_go 1 (pc1 := 51) (lv1 := [.ref 53, .ref 17, .int bar, .int fr, .int tm, .int u, .int z, .int i, .int a, .int b, wa]) (st1 := [.int i, .ref 22]) (h1 := (124, I, J, R)) rfl ?_
  refine ev_call (v1 := (some (.int c))) (h1 := (124, I, J, R)) rfl rfl c3 ?_
  refine ev_go 6 (pc1 := 64) (lv1 := [.ref 53, .ref 17, .int bar, .int fr, .int tm, .int u, .int z, .int i, .int a, .int b, .int (c * u)]) (st1 := [.int 7, .int a, .ref 53]) (h1 := (124, I, J, R)) rfl ?_
  refine ev_call (v1 := none) (h1 := (124, I, J1, R)) rfl rfl c4 ?_
  refine ev_go 4 (pc1 := 73) (lv1 := [.ref 53, .ref 17, .int bar, .int fr, .int tm, .int u, .int z, .int i, .int a, .int b, .int (c * u)]) (st1 := [.int b, .int bar, .int 7, .ref 53]) (h1 := (124, I, J1, R)) rfl ?_
  refine ev_go 3 (pc1 := 76) (lv1 := [.ref 53, .ref 17, .int bar, .int fr, .int tm, .int u, .int z, .int i, .int a, .int b, .int (c * u)]) (st1 := [.int ((bar >>> (b &&& 31)) &&& 1), .int 7, .ref 53]) (h1 := (124, I, J1, R)) rfl ?_
  refine ev_br (b1 := true) rfl rfl (xcd_ne (x := ((bar >>> (b &&& 31)) &&& 1)) (y := 0) (by rw [show ((0 : Int32)).toInt = 0 from by decide]; first | exact b2 | omega)) ?_
  refine ev_go 2 (pc1 := 87) (lv1 := [.ref 53, .ref 17, .int bar, .int fr, .int tm, .int u, .int z, .int i, .int a, .int b, .int (c * u)]) (st1 := [.int 100, .int 0, .int 7, .ref 53]) (h1 := (124, I, J1, R)) rfl ?_
  refine ev_call (v1 := none) (h1 := (124, I, J2, R)) rfl rfl c5 ?_
  refine ev_go 3 (pc1 := 95) (lv1 := [.ref 53, .ref 17, .int bar, .int fr, .int tm, .int u, .int z, .int i, .int a, .int b, .int (c * u)]) (st1 := [.int 8, .int b, .ref 53]) (h1 := (124, I, J2, R)) rfl ?_
  refine ev_call (v1 := none) (h1 := (124, I, J3, R)) rfl rfl c6 ?_
  refine ev_go 4 (pc1 := 104) (lv1 := [.ref 53, .ref 17, .int bar, .int fr, .int tm, .int u, .int z, .int i, .int a, .int b, .int (c * u)]) (st1 := [.int a, .int bar, .int 8, .ref 53]) (h1 := (124, I, J3, R)) rfl ?_
  refine ev_go 3 (pc1 := 107) (lv1 := [.ref 53, .ref 17, .int bar, .int fr, .int tm, .int u, .int z, .int i, .int a, .int b, .int (c * u)]) (st1 := [.int ((bar >>> (a &&& 31)) &&& 1), .int 8, .ref 53]) (h1 := (124, I, J3, R)) rfl ?_
  refine ev_br (b1 := false) rfl rfl (xcd_nne (x := ((bar >>> (a &&& 31)) &&& 1)) (y := 0) (by rw [show ((0 : Int32)).toInt = 0 from by decide]; first | exact b3 | omega)) ?_
  refine ev_go 3 (pc1 := 118) (lv1 := [.ref 53, .ref 17, .int bar, .int fr, .int tm, .int u, .int z, .int i, .int a, .int b, .int (c * u)]) (st1 := [.int 100, .int (c * u), .int 8, .ref 53]) (h1 := (124, I, J3, R)) rfl ?_
  refine ev_call (v1 := none) (h1 := (124, I, J4, R)) rfl rfl c7 ?_
  refine ev_go 3 (pc1 := 126) (lv1 := [.ref 53, .ref 17, .int bar, .int fr, .int tm, .int u, .int z, .int i, .int a, .int b, .int (c * u)]) (st1 := [.int a, .int 7, .ref 53]) (h1 := (124, I, J4, R)) rfl ?_
  refine ev_call (v1 := none) (h1 := (124, I, J5, R)) rfl rfl c8 ?_
  refine ev_go 3 (pc1 := 134) (lv1 := [.ref 53, .ref 17, .int bar, .int fr, .int tm, .int u, .int z, .int i, .int a, .int b, .int (c * u)]) (st1 := [.int a, .int 8, .ref 53]) (h1 := (124, I, J5, R)) rfl ?_
  refine ev_call (v1 := none) (h1 := (124, I, J6, R)) rfl rfl c9 ?_
  refine ev_go 3 (pc1 := 142) (lv1 := [.ref 53, .ref 17, .int bar, .int fr, .int tm, .int u, .int z, .int i, .int a, .int b, .int (c * u)]) (st1 := [.int b, .int 8, .ref 53]) (h1 := (124, I, J6, R)) rfl ?_
  refine ev_call (v1 := none) (h1 := (124, I, J7, R)) rfl rfl c10 ?_
  refine ev_go 3 (pc1 := 150) (lv1 := [.ref 53, .ref 17, .int bar, .int fr, .int tm, .int u, .int z, .int i, .int a, .int b, .int (c * u)]) (st1 := [.int b, .int 7, .ref 53]) (h1 := (124, I, J7, R)) rfl ?_
  refine ev_call (v1 := none) (h1 := (124, I, J8, R)) rfl rfl c11 ?_
  refine ev_go 2 (pc1 := 16) (lv1 := [.ref 53, .ref 17, .int bar, .int fr, .int tm, .int u, .int z, .int (i + 1), .int a, .int b, .int (c * u)]) (st1 := []) (h1 := (124, I, J8, R)) rfl ?_
  exact hk
set_option maxRecDepth 20000 in
theorem qw_11_3 {L : Nat} {xs : Nat → Int32} {d : Nat} {I : Nat → Nat → Int32} {J : Nat → Nat → Int64} {R : Nat → Nat → Nat} {J1 : Nat → Nat → Int64} {J2 : Nat → Nat → Int64} {J3 : Nat → Nat → Int64} {J4 : Nat → Nat → Int64} {J5 : Nat → Nat → Int64} {J6 : Nat → Nat → Int64} {J7 : Nat → Nat → Int64} {J8 : Nat → Nat → Int64} {bar fr tm u z i a b c : Int32} {w8 w9 wa : Value} (hG : aGd R) (b1 : i.toInt < z.toInt) (c1 : xEv L xs d 39 0 [.ref 20, .int i] [] (124, I, J, R) (some (.int a)) (124, I, J, R)) (c2 : xEv L xs d 39 0 [.ref 21, .int i] [] (124, I, J, R) (some (.int b)) (124, I, J, R)) (c3 : xEv L xs d 39 0 [.ref 22, .int i] [] (124, I, J, R) (some (.int c)) (124, I, J, R)) (c4 : xEv L xs d 75 0 [.ref 53, .int a, .int 7] [] (124, I, J, R) none (124, I, J1, R)) (b2 : ((bar >>> (b &&& 31)) &&& 1).toInt ≠ 0) (c5 : xEv L xs d 77 0 [.ref 53, .int 7, .int 0, .int 100, xmk, xmk, xmk, xmk, xmk, xmk, xmk] [] (124, I, J1, R) none (124, I, J2, R)) (c6 : xEv L xs d 75 0 [.ref 53, .int b, .int 8] [] (124, I, J2, R) none (124, I, J3, R)) (b3 : ((bar >>> (a &&& 31)) &&& 1).toInt ≠ 0) (c7 : xEv L xs d 77 0 [.ref 53, .int 8, .int 0, .int 100, xmk, xmk, xmk, xmk, xmk, xmk, xmk] [] (124, I, J3, R) none (124, I, J4, R)) (c8 : xEv L xs d 76 0 [.ref 53, .int 7, .int a, xmk, xmk, xmk, xmk, xmk] [] (124, I, J4, R) none (124, I, J5, R)) (c9 : xEv L xs d 78 0 [.ref 53, .int 8, .int a, xmk, xmk, xmk, xmk, xmk] [] (124, I, J5, R) none (124, I, J6, R)) (c10 : xEv L xs d 76 0 [.ref 53, .int 8, .int b, xmk, xmk, xmk, xmk, xmk] [] (124, I, J6, R) none (124, I, J7, R)) (c11 : xEv L xs d 78 0 [.ref 53, .int 7, .int b, xmk, xmk, xmk, xmk, xmk] [] (124, I, J7, R) none (124, I, J8, R)) {v : Option Value} {h' : xH} (hk : xEv L xs (d + 1) 113 16 [.ref 53, .ref 17, .int bar, .int fr, .int tm, .int u, .int z, .int (i + 1), .int a, .int b, .int (c * u)] [] (124, I, J8, R) v h') : xEv L xs (d + 1) 113 16 [.ref 53, .ref 17, .int bar, .int fr, .int tm, .int u, .int z, .int i, w8, w9, wa] [] (124, I, J, R) v h' := by
  refine ev_go 2 (pc1 := 20) (lv1 := [.ref 53, .ref 17, .int bar, .int fr, .int tm, .int u, .int z, .int i, w8, w9, wa]) (st1 := [.int z, .int i]) (h1 := (124, I, J, R)) rfl ?_
  refine ev_br (b1 := false) rfl rfl (xcd_nge (x := i) (y := z) (by first | exact b1 | omega)) ?_
  refine ev_go 1 (pc1 := 24) (lv1 := [.ref 53, .ref 17, .int bar, .int fr, .int tm, .int u, .int z, .int i, w8, w9, wa]) (st1 := [.ref 17]) (h1 := (124, I, J, R)) rfl ?_
  refine ev_gf (c := 17) (t := 20) (X := R 17 2) rfl rfl (fun _ => rfl) rfl (hG 17 2 20 rfl rfl) ?_
  refine ev_go 1 (pc1 := 29) (lv1 := [.ref 53, .ref 17, .int bar, .int fr, .int tm, .int u, .int z, .int i, w8, w9, wa]) (st1 := [.int i, .ref 20]) (h1 := (124, I, J, R)) rfl ?_
  refine ev_call (v1 := (some (.int a))) (h1 := (124, I, J, R)) rfl rfl c1 ?_
  refine ev_go 2 (pc1 := 35) (lv1 := [.ref 53, .ref 17, .int bar, .int fr, .int tm, .int u, .int z, .int i, .int a, w9, wa]) (st1 := [.ref 17]) (h1 := (124, I, J, R)) rfl ?_
  refine ev_gf (c := 17) (t := 21) (X := R 17 3) rfl rfl (fun _ => rfl) rfl (hG 17 3 21 rfl rfl) ?_
  refine ev_go 1 (pc1 := 40) (lv1 := [.ref 53, .ref 17, .int bar, .int fr, .int tm, .int u, .int z, .int i, .int a, w9, wa]) (st1 := [.int i, .ref 21]) (h1 := (124, I, J, R)) rfl ?_
  refine ev_call (v1 := (some (.int b))) (h1 := (124, I, J, R)) rfl rfl c2 ?_
  refine ev_go 2 (pc1 := 46) (lv1 := [.ref 53, .ref 17, .int bar, .int fr, .int tm, .int u, .int z, .int i, .int a, .int b, wa]) (st1 := [.ref 17]) (h1 := (124, I, J, R)) rfl ?_
  refine ev_gf (c := 17) (t := 22) (X := R 17 4) rfl rfl (fun _ => rfl) rfl (hG 17 4 22 rfl rfl) ?_
  refine ev_go 1 (pc1 := 51) (lv1 := [.ref 53, .ref 17, .int bar, .int fr, .int tm, .int u, .int z, .int i, .int a, .int b, wa]) (st1 := [.int i, .ref 22]) (h1 := (124, I, J, R)) rfl ?_
  refine ev_call (v1 := (some (.int c))) (h1 := (124, I, J, R)) rfl rfl c3 ?_
  refine ev_go 6 (pc1 := 64) (lv1 := [.ref 53, .ref 17, .int bar, .int fr, .int tm, .int u, .int z, .int i, .int a, .int b, .int (c * u)]) (st1 := [.int 7, .int a, .ref 53]) (h1 := (124, I, J, R)) rfl ?_
  refine ev_call (v1 := none) (h1 := (124, I, J1, R)) rfl rfl c4 ?_
  refine ev_go 4 (pc1 := 73) (lv1 := [.ref 53, .ref 17, .int bar, .int fr, .int tm, .int u, .int z, .int i, .int a, .int b, .int (c * u)]) (st1 := [.int b, .int bar, .int 7, .ref 53]) (h1 := (124, I, J1, R)) rfl ?_
  refine ev_go 3 (pc1 := 76) (lv1 := [.ref 53, .ref 17, .int bar, .int fr, .int tm, .int u, .int z, .int i, .int a, .int b, .int (c * u)]) (st1 := [.int ((bar >>> (b &&& 31)) &&& 1), .int 7, .ref 53]) (h1 := (124, I, J1, R)) rfl ?_
  refine ev_br (b1 := true) rfl rfl (xcd_ne (x := ((bar >>> (b &&& 31)) &&& 1)) (y := 0) (by rw [show ((0 : Int32)).toInt = 0 from by decide]; first | exact b2 | omega)) ?_
  refine ev_go 2 (pc1 := 87) (lv1 := [.ref 53, .ref 17, .int bar, .int fr, .int tm, .int u, .int z, .int i, .int a, .int b, .int (c * u)]) (st1 := [.int 100, .int 0, .int 7, .ref 53]) (h1 := (124, I, J1, R)) rfl ?_
  refine ev_call (v1 := none) (h1 := (124, I, J2, R)) rfl rfl c5 ?_
  refine ev_go 3 (pc1 := 95) (lv1 := [.ref 53, .ref 17, .int bar, .int fr, .int tm, .int u, .int z, .int i, .int a, .int b, .int (c * u)]) (st1 := [.int 8, .int b, .ref 53]) (h1 := (124, I, J2, R)) rfl ?_
  refine ev_call (v1 := none) (h1 := (124, I, J3, R)) rfl rfl c6 ?_
  refine ev_go 4 (pc1 := 104) (lv1 := [.ref 53, .ref 17, .int bar, .int fr, .int tm, .int u, .int z, .int i, .int a, .int b, .int (c * u)]) (st1 := [.int a, .int bar, .int 8, .ref 53]) (h1 := (124, I, J3, R)) rfl ?_
  refine ev_go 3 (pc1 := 107) (lv1 := [.ref 53, .ref 17, .int bar, .int fr, .int tm, .int u, .int z, .int i, .int a, .int b, .int (c * u)]) (st1 := [.int ((bar >>> (a &&& 31)) &&& 1), .int 8, .ref 53]) (h1 := (124, I, J3, R)) rfl ?_
  refine ev_br (b1 := true) rfl rfl (xcd_ne (x := ((bar >>> (a &&& 31)) &&& 1)) (y := 0) (by rw [show ((0 : Int32)).toInt = 0 from by decide]; first | exact b3 | omega)) ?_
  refine ev_go 2 (pc1 := 118) (lv1 := [.ref 53, .ref 17, .int bar, .int fr, .int tm, .int u, .int z, .int i, .int a, .int b, .int (c * u)]) (st1 := [.int 100, .int 0, .int 8, .ref 53]) (h1 := (124, I, J3, R)) rfl ?_
  refine ev_call (v1 := none) (h1 := (124, I, J4, R)) rfl rfl c7 ?_
  refine ev_go 3 (pc1 := 126) (lv1 := [.ref 53, .ref 17, .int bar, .int fr, .int tm, .int u, .int z, .int i, .int a, .int b, .int (c * u)]) (st1 := [.int a, .int 7, .ref 53]) (h1 := (124, I, J4, R)) rfl ?_
  refine ev_call (v1 := none) (h1 := (124, I, J5, R)) rfl rfl c8 ?_
  refine ev_go 3 (pc1 := 134) (lv1 := [.ref 53, .ref 17, .int bar, .int fr, .int tm, .int u, .int z, .int i, .int a, .int b, .int (c * u)]) (st1 := [.int a, .int 8, .ref 53]) (h1 := (124, I, J5, R)) rfl ?_
  refine ev_call (v1 := none) (h1 := (124, I, J6, R)) rfl rfl c9 ?_
  refine ev_go 3 (pc1 := 142) (lv1 := [.ref 53, .ref 17, .int bar, .int fr, .int tm, .int u, .int z, .int i, .int a, .int b, .int (c * u)]) (st1 := [.int b, .int 8, .ref 53]) (h1 := (124, I, J6, R)) rfl ?_
  refine ev_call (v1 := none) (h1 := (124, I, J7, R)) rfl rfl c10 ?_
  refine ev_go 3 (pc1 := 150) (lv1 := [.ref 53, .ref 17, .int bar, .int fr, .int tm, .int u, .int z, .int i, .int a, .int b, .int (c * u)]) (st1 := [.int b, .int 7, .ref 53]) (h1 := (124, I, J7, R)) rfl ?_
  refine ev_call (v1 := none) (h1 := (124, I, J8, R)) rfl rfl c11 ?_
  refine ev_go 2 (pc1 := 16) (lv1 := [.ref 53, .ref 17, .int bar, .int fr, .int tm, .int u, .int z, .int (i + 1), .int a, .int b, .int (c * u)]) (st1 := []) (h1 := (124, I, J8, R)) rfl ?_
  exact hk
set_option maxRecDepth 20000 in
theorem qv2_n_3 {L : Nat} {xs : Nat → Int32} {d : Nat} {I : Nat → Nat → Int32} {J : Nat → Nat → Int64} {R : Nat → Nat → Nat} {a b t u z : Int32} (hG : aGd R) (r_R_0_8 : R 0 8 = 4) (c1 : xEv L xs d 59 0 [.ref 3, .int a] [] (124, I, J, R) (some (.int 0)) (124, I, J, R)) : xEv L xs (d + 1) 112 0 [.ref 0, .int a, .int b, .int t, .int u, .int z] [] (124, I, J, R) (some (.int 0)) (124, I, J, R) := by
  refine ev_go 1 (pc1 := 1) (lv1 := [.ref 0, .int a, .int b, .int t, .int u, .int z]) (st1 := [.ref 0]) (h1 := (124, I, J, R)) rfl ?_
  refine ev_gf (c := 0) (t := 3) (X := R 0 8) rfl rfl (fun _ => rfl) rfl r_R_0_8 ?_
  refine ev_go 1 (pc1 := 5) (lv1 := [.ref 0, .int a, .int b, .int t, .int u, .int z]) (st1 := [.int a, .ref 3]) (h1 := (124, I, J, R)) rfl ?_
  refine ev_call (v1 := (some (.int 0))) (h1 := (124, I, J, R)) rfl rfl c1 ?_
  refine ev_go 2 (pc1 := 60) (lv1 := [.ref 0, .int a, .int b, .int t, .int u, .int z]) (st1 := [.int 0]) (h1 := (124, I, J, R)) rfl ?_
  exact ev_ret rfl rfl
set_option maxRecDepth 20000 in
theorem qv2_p_3 {L : Nat} {xs : Nat → Int32} {d : Nat} {I : Nat → Nat → Int32} {J : Nat → Nat → Int64} {R : Nat → Nat → Nat} {a b t u z : Int32} (hG : aGd R) (r_R_0_8 : R 0 8 = 4) (c1 : xEv L xs d 59 0 [.ref 3, .int a] [] (124, I, J, R) (some (.int 1)) (124, I, J, R)) (c2 : xEv L xs d 64 0 [.ref 3, .int b] [] (124, I, J, R) (some (.int 0)) (124, I, J, R)) : xEv L xs (d + 1) 112 0 [.ref 0, .int a, .int b, .int t, .int u, .int z] [] (124, I, J, R) (some (.int 0)) (124, I, J, R) := by
  refine ev_go 1 (pc1 := 1) (lv1 := [.ref 0, .int a, .int b, .int t, .int u, .int z]) (st1 := [.ref 0]) (h1 := (124, I, J, R)) rfl ?_
  refine ev_gf (c := 0) (t := 3) (X := R 0 8) rfl rfl (fun _ => rfl) rfl r_R_0_8 ?_
  refine ev_go 1 (pc1 := 5) (lv1 := [.ref 0, .int a, .int b, .int t, .int u, .int z]) (st1 := [.int a, .ref 3]) (h1 := (124, I, J, R)) rfl ?_
  refine ev_call (v1 := (some (.int 1))) (h1 := (124, I, J, R)) rfl rfl c1 ?_
  refine ev_go 2 (pc1 := 12) (lv1 := [.ref 0, .int a, .int b, .int t, .int u, .int z]) (st1 := [.ref 0]) (h1 := (124, I, J, R)) rfl ?_
  refine ev_gf (c := 0) (t := 3) (X := R 0 8) rfl rfl (fun _ => rfl) rfl r_R_0_8 ?_
  refine ev_go 1 (pc1 := 16) (lv1 := [.ref 0, .int a, .int b, .int t, .int u, .int z]) (st1 := [.int b, .ref 3]) (h1 := (124, I, J, R)) rfl ?_
  refine ev_call (v1 := (some (.int 0))) (h1 := (124, I, J, R)) rfl rfl c2 ?_
  refine ev_go 2 (pc1 := 60) (lv1 := [.ref 0, .int a, .int b, .int t, .int u, .int z]) (st1 := [.int 0]) (h1 := (124, I, J, R)) rfl ?_
  exact ev_ret rfl rfl
set_option maxRecDepth 20000 in
theorem qv2_t_3 {L : Nat} {xs : Nat → Int32} {d : Nat} {I : Nat → Nat → Int32} {J : Nat → Nat → Int64} {R : Nat → Nat → Nat} {a b t u z : Int32} (hG : aGd R) (r_R_0_8 : R 0 8 = 4) (c1 : xEv L xs d 59 0 [.ref 3, .int a] [] (124, I, J, R) (some (.int 1)) (124, I, J, R)) (c2 : xEv L xs d 64 0 [.ref 3, .int b] [] (124, I, J, R) (some (.int 1)) (124, I, J, R)) (b1 : t.toInt < 0) : xEv L xs (d + 1) 112 0 [.ref 0, .int a, .int b, .int t, .int u, .int z] [] (124, I, J, R) (some (.int 0)) (124, I, J, R) := by
  refine ev_go 1 (pc1 := 1) (lv1 := [.ref 0, .int a, .int b, .int t, .int u, .int z]) (st1 := [.ref 0]) (h1 := (124, I, J, R)) rfl ?_
  refine ev_gf (c := 0) (t := 3) (X := R 0 8) rfl rfl (fun _ => rfl) rfl r_R_0_8 ?_
  refine ev_go 1 (pc1 := 5) (lv1 := [.ref 0, .int a, .int b, .int t, .int u, .int z]) (st1 := [.int a, .ref 3]) (h1 := (124, I, J, R)) rfl ?_
  refine ev_call (v1 := (some (.int 1))) (h1 := (124, I, J, R)) rfl rfl c1 ?_
  refine ev_go 2 (pc1 := 12) (lv1 := [.ref 0, .int a, .int b, .int t, .int u, .int z]) (st1 := [.ref 0]) (h1 := (124, I, J, R)) rfl ?_
  refine ev_gf (c := 0) (t := 3) (X := R 0 8) rfl rfl (fun _ => rfl) rfl r_R_0_8 ?_
  refine ev_go 1 (pc1 := 16) (lv1 := [.ref 0, .int a, .int b, .int t, .int u, .int z]) (st1 := [.int b, .ref 3]) (h1 := (124, I, J, R)) rfl ?_
  refine ev_call (v1 := (some (.int 1))) (h1 := (124, I, J, R)) rfl rfl c2 ?_
  refine ev_go 2 (pc1 := 23) (lv1 := [.ref 0, .int a, .int b, .int t, .int u, .int z]) (st1 := [.int t]) (h1 := (124, I, J, R)) rfl ?_
  refine ev_br (b1 := true) rfl rfl (xcd_lt (x := t) (y := 0) (by rw [show ((0 : Int32)).toInt = 0 from by decide]; first | exact b1 | omega)) ?_
  refine ev_go 1 (pc1 := 60) (lv1 := [.ref 0, .int a, .int b, .int t, .int u, .int z]) (st1 := [.int 0]) (h1 := (124, I, J, R)) rfl ?_
  exact ev_ret rfl rfl
set_option maxRecDepth 20000 in
theorem qv2_z_3 {L : Nat} {xs : Nat → Int32} {d : Nat} {I : Nat → Nat → Int32} {J : Nat → Nat → Int64} {R : Nat → Nat → Nat} {a b t u z : Int32} (hG : aGd R) (r_R_0_8 : R 0 8 = 4) (c1 : xEv L xs d 59 0 [.ref 3, .int a] [] (124, I, J, R) (some (.int 1)) (124, I, J, R)) (c2 : xEv L xs d 64 0 [.ref 3, .int b] [] (124, I, J, R) (some (.int 1)) (124, I, J, R)) (b1 : t.toInt ≥ 0) (b2 : z.toInt < t.toInt) : xEv L xs (d + 1) 112 0 [.ref 0, .int a, .int b, .int t, .int u, .int z] [] (124, I, J, R) (some (.int 0)) (124, I, J, R) := by
  refine ev_go 1 (pc1 := 1) (lv1 := [.ref 0, .int a, .int b, .int t, .int u, .int z]) (st1 := [.ref 0]) (h1 := (124, I, J, R)) rfl ?_
  refine ev_gf (c := 0) (t := 3) (X := R 0 8) rfl rfl (fun _ => rfl) rfl r_R_0_8 ?_
  refine ev_go 1 (pc1 := 5) (lv1 := [.ref 0, .int a, .int b, .int t, .int u, .int z]) (st1 := [.int a, .ref 3]) (h1 := (124, I, J, R)) rfl ?_
  refine ev_call (v1 := (some (.int 1))) (h1 := (124, I, J, R)) rfl rfl c1 ?_
  refine ev_go 2 (pc1 := 12) (lv1 := [.ref 0, .int a, .int b, .int t, .int u, .int z]) (st1 := [.ref 0]) (h1 := (124, I, J, R)) rfl ?_
  refine ev_gf (c := 0) (t := 3) (X := R 0 8) rfl rfl (fun _ => rfl) rfl r_R_0_8 ?_
  refine ev_go 1 (pc1 := 16) (lv1 := [.ref 0, .int a, .int b, .int t, .int u, .int z]) (st1 := [.int b, .ref 3]) (h1 := (124, I, J, R)) rfl ?_
  refine ev_call (v1 := (some (.int 1))) (h1 := (124, I, J, R)) rfl rfl c2 ?_
  refine ev_go 2 (pc1 := 23) (lv1 := [.ref 0, .int a, .int b, .int t, .int u, .int z]) (st1 := [.int t]) (h1 := (124, I, J, R)) rfl ?_
  refine ev_br (b1 := false) rfl rfl (xcd_nlt (x := t) (y := 0) (by rw [show ((0 : Int32)).toInt = 0 from by decide]; first | exact b1 | omega)) ?_
  refine ev_go 2 (pc1 := 29) (lv1 := [.ref 0, .int a, .int b, .int t, .int u, .int z]) (st1 := [.int t, .int z]) (h1 := (124, I, J, R)) rfl ?_
  refine ev_br (b1 := true) rfl rfl (xcd_lt (x := z) (y := t) (by first | exact b2 | omega)) ?_
  refine ev_go 1 (pc1 := 60) (lv1 := [.ref 0, .int a, .int b, .int t, .int u, .int z]) (st1 := [.int 0]) (h1 := (124, I, J, R)) rfl ?_
  exact ev_ret rfl rfl
set_option maxRecDepth 20000 in
theorem qv2_s_3 {L : Nat} {xs : Nat → Int32} {d : Nat} {I : Nat → Nat → Int32} {J : Nat → Nat → Int64} {R : Nat → Nat → Nat} {a b t u z : Int32} (hG : aGd R) (r_R_0_8 : R 0 8 = 4) (c1 : xEv L xs d 59 0 [.ref 3, .int a] [] (124, I, J, R) (some (.int 1)) (124, I, J, R)) (c2 : xEv L xs d 64 0 [.ref 3, .int b] [] (124, I, J, R) (some (.int 1)) (124, I, J, R)) (b1 : t.toInt ≥ 0) (b2 : z.toInt ≥ t.toInt) (b3 : z.toInt > (I 17 5).toInt) : xEv L xs (d + 1) 112 0 [.ref 0, .int a, .int b, .int t, .int u, .int z] [] (124, I, J, R) (some (.int 0)) (124, I, J, R) := by
  refine ev_go 1 (pc1 := 1) (lv1 := [.ref 0, .int a, .int b, .int t, .int u, .int z]) (st1 := [.ref 0]) (h1 := (124, I, J, R)) rfl ?_
  refine ev_gf (c := 0) (t := 3) (X := R 0 8) rfl rfl (fun _ => rfl) rfl r_R_0_8 ?_
  refine ev_go 1 (pc1 := 5) (lv1 := [.ref 0, .int a, .int b, .int t, .int u, .int z]) (st1 := [.int a, .ref 3]) (h1 := (124, I, J, R)) rfl ?_
  refine ev_call (v1 := (some (.int 1))) (h1 := (124, I, J, R)) rfl rfl c1 ?_
  refine ev_go 2 (pc1 := 12) (lv1 := [.ref 0, .int a, .int b, .int t, .int u, .int z]) (st1 := [.ref 0]) (h1 := (124, I, J, R)) rfl ?_
  refine ev_gf (c := 0) (t := 3) (X := R 0 8) rfl rfl (fun _ => rfl) rfl r_R_0_8 ?_
  refine ev_go 1 (pc1 := 16) (lv1 := [.ref 0, .int a, .int b, .int t, .int u, .int z]) (st1 := [.int b, .ref 3]) (h1 := (124, I, J, R)) rfl ?_
  refine ev_call (v1 := (some (.int 1))) (h1 := (124, I, J, R)) rfl rfl c2 ?_
  refine ev_go 2 (pc1 := 23) (lv1 := [.ref 0, .int a, .int b, .int t, .int u, .int z]) (st1 := [.int t]) (h1 := (124, I, J, R)) rfl ?_
  refine ev_br (b1 := false) rfl rfl (xcd_nlt (x := t) (y := 0) (by rw [show ((0 : Int32)).toInt = 0 from by decide]; first | exact b1 | omega)) ?_
  refine ev_go 2 (pc1 := 29) (lv1 := [.ref 0, .int a, .int b, .int t, .int u, .int z]) (st1 := [.int t, .int z]) (h1 := (124, I, J, R)) rfl ?_
  refine ev_br (b1 := false) rfl rfl (xcd_nlt (x := z) (y := t) (by first | exact b2 | omega)) ?_
  refine ev_go 2 (pc1 := 35) (lv1 := [.ref 0, .int a, .int b, .int t, .int u, .int z]) (st1 := [.ref 0, .int z]) (h1 := (124, I, J, R)) rfl ?_
  refine ev_gf (c := 0) (t := 3) (X := R 0 8) rfl rfl (fun _ => rfl) rfl r_R_0_8 ?_
  refine ev_gf (c := 3) (t := 17) (X := R 3 13) rfl rfl (fun _ => rfl) rfl (hG 3 13 17 rfl rfl) ?_
  refine ev_go 1 (pc1 := 44) (lv1 := [.ref 0, .int a, .int b, .int t, .int u, .int z]) (st1 := [.int (I 17 5), .int z]) (h1 := (124, I, J, R)) rfl ?_
  refine ev_br (b1 := true) rfl rfl (xcd_gt (x := z) (y := (I 17 5)) (by first | exact b3 | omega)) ?_
  refine ev_go 1 (pc1 := 60) (lv1 := [.ref 0, .int a, .int b, .int t, .int u, .int z]) (st1 := [.int 0]) (h1 := (124, I, J, R)) rfl ?_
  exact ev_ret rfl rfl
set_option maxRecDepth 20000 in
theorem qv2_u_3 {L : Nat} {xs : Nat → Int32} {d : Nat} {I : Nat → Nat → Int32} {J : Nat → Nat → Int64} {R : Nat → Nat → Nat} {a b t u z : Int32} (hG : aGd R) (r_R_0_8 : R 0 8 = 4) (c1 : xEv L xs d 59 0 [.ref 3, .int a] [] (124, I, J, R) (some (.int 1)) (124, I, J, R)) (c2 : xEv L xs d 64 0 [.ref 3, .int b] [] (124, I, J, R) (some (.int 1)) (124, I, J, R)) (b1 : t.toInt ≥ 0) (b2 : z.toInt ≥ t.toInt) (b3 : z.toInt ≤ (I 17 5).toInt) (b4 : u.toInt < 0) : xEv L xs (d + 1) 112 0 [.ref 0, .int a, .int b, .int t, .int u, .int z] [] (124, I, J, R) (some (.int 0)) (124, I, J, R) := by
  refine ev_go 1 (pc1 := 1) (lv1 := [.ref 0, .int a, .int b, .int t, .int u, .int z]) (st1 := [.ref 0]) (h1 := (124, I, J, R)) rfl ?_
  refine ev_gf (c := 0) (t := 3) (X := R 0 8) rfl rfl (fun _ => rfl) rfl r_R_0_8 ?_
  refine ev_go 1 (pc1 := 5) (lv1 := [.ref 0, .int a, .int b, .int t, .int u, .int z]) (st1 := [.int a, .ref 3]) (h1 := (124, I, J, R)) rfl ?_
  refine ev_call (v1 := (some (.int 1))) (h1 := (124, I, J, R)) rfl rfl c1 ?_
  refine ev_go 2 (pc1 := 12) (lv1 := [.ref 0, .int a, .int b, .int t, .int u, .int z]) (st1 := [.ref 0]) (h1 := (124, I, J, R)) rfl ?_
  refine ev_gf (c := 0) (t := 3) (X := R 0 8) rfl rfl (fun _ => rfl) rfl r_R_0_8 ?_
  refine ev_go 1 (pc1 := 16) (lv1 := [.ref 0, .int a, .int b, .int t, .int u, .int z]) (st1 := [.int b, .ref 3]) (h1 := (124, I, J, R)) rfl ?_
  refine ev_call (v1 := (some (.int 1))) (h1 := (124, I, J, R)) rfl rfl c2 ?_
  refine ev_go 2 (pc1 := 23) (lv1 := [.ref 0, .int a, .int b, .int t, .int u, .int z]) (st1 := [.int t]) (h1 := (124, I, J, R)) rfl ?_
  refine ev_br (b1 := false) rfl rfl (xcd_nlt (x := t) (y := 0) (by rw [show ((0 : Int32)).toInt = 0 from by decide]; first | exact b1 | omega)) ?_
  refine ev_go 2 (pc1 := 29) (lv1 := [.ref 0, .int a, .int b, .int t, .int u, .int z]) (st1 := [.int t, .int z]) (h1 := (124, I, J, R)) rfl ?_
  refine ev_br (b1 := false) rfl rfl (xcd_nlt (x := z) (y := t) (by first | exact b2 | omega)) ?_
  refine ev_go 2 (pc1 := 35) (lv1 := [.ref 0, .int a, .int b, .int t, .int u, .int z]) (st1 := [.ref 0, .int z]) (h1 := (124, I, J, R)) rfl ?_
  refine ev_gf (c := 0) (t := 3) (X := R 0 8) rfl rfl (fun _ => rfl) rfl r_R_0_8 ?_
  refine ev_gf (c := 3) (t := 17) (X := R 3 13) rfl rfl (fun _ => rfl) rfl (hG 3 13 17 rfl rfl) ?_
  refine ev_go 1 (pc1 := 44) (lv1 := [.ref 0, .int a, .int b, .int t, .int u, .int z]) (st1 := [.int (I 17 5), .int z]) (h1 := (124, I, J, R)) rfl ?_
  refine ev_br (b1 := false) rfl rfl (xcd_ngt (x := z) (y := (I 17 5)) (by first | exact b3 | omega)) ?_
  refine ev_go 1 (pc1 := 49) (lv1 := [.ref 0, .int a, .int b, .int t, .int u, .int z]) (st1 := [.int u]) (h1 := (124, I, J, R)) rfl ?_
  refine ev_br (b1 := true) rfl rfl (xcd_lt (x := u) (y := 0) (by rw [show ((0 : Int32)).toInt = 0 from by decide]; first | exact b4 | omega)) ?_
  refine ev_go 1 (pc1 := 60) (lv1 := [.ref 0, .int a, .int b, .int t, .int u, .int z]) (st1 := [.int 0]) (h1 := (124, I, J, R)) rfl ?_
  exact ev_ret rfl rfl
set_option maxRecDepth 20000 in
theorem qv2_w_3 {L : Nat} {xs : Nat → Int32} {d : Nat} {I : Nat → Nat → Int32} {J : Nat → Nat → Int64} {R : Nat → Nat → Nat} {a b t u z : Int32} (hG : aGd R) (r_R_0_8 : R 0 8 = 4) (c1 : xEv L xs d 59 0 [.ref 3, .int a] [] (124, I, J, R) (some (.int 1)) (124, I, J, R)) (c2 : xEv L xs d 64 0 [.ref 3, .int b] [] (124, I, J, R) (some (.int 1)) (124, I, J, R)) (b1 : t.toInt ≥ 0) (b2 : z.toInt ≥ t.toInt) (b3 : z.toInt ≤ (I 17 5).toInt) (b4 : u.toInt ≥ 0) (b5 : u.toInt > 10) : xEv L xs (d + 1) 112 0 [.ref 0, .int a, .int b, .int t, .int u, .int z] [] (124, I, J, R) (some (.int 0)) (124, I, J, R) := by
  refine ev_go 1 (pc1 := 1) (lv1 := [.ref 0, .int a, .int b, .int t, .int u, .int z]) (st1 := [.ref 0]) (h1 := (124, I, J, R)) rfl ?_
  refine ev_gf (c := 0) (t := 3) (X := R 0 8) rfl rfl (fun _ => rfl) rfl r_R_0_8 ?_
  refine ev_go 1 (pc1 := 5) (lv1 := [.ref 0, .int a, .int b, .int t, .int u, .int z]) (st1 := [.int a, .ref 3]) (h1 := (124, I, J, R)) rfl ?_
  refine ev_call (v1 := (some (.int 1))) (h1 := (124, I, J, R)) rfl rfl c1 ?_
  refine ev_go 2 (pc1 := 12) (lv1 := [.ref 0, .int a, .int b, .int t, .int u, .int z]) (st1 := [.ref 0]) (h1 := (124, I, J, R)) rfl ?_
  refine ev_gf (c := 0) (t := 3) (X := R 0 8) rfl rfl (fun _ => rfl) rfl r_R_0_8 ?_
  refine ev_go 1 (pc1 := 16) (lv1 := [.ref 0, .int a, .int b, .int t, .int u, .int z]) (st1 := [.int b, .ref 3]) (h1 := (124, I, J, R)) rfl ?_
  refine ev_call (v1 := (some (.int 1))) (h1 := (124, I, J, R)) rfl rfl c2 ?_
  refine ev_go 2 (pc1 := 23) (lv1 := [.ref 0, .int a, .int b, .int t, .int u, .int z]) (st1 := [.int t]) (h1 := (124, I, J, R)) rfl ?_
  refine ev_br (b1 := false) rfl rfl (xcd_nlt (x := t) (y := 0) (by rw [show ((0 : Int32)).toInt = 0 from by decide]; first | exact b1 | omega)) ?_
  refine ev_go 2 (pc1 := 29) (lv1 := [.ref 0, .int a, .int b, .int t, .int u, .int z]) (st1 := [.int t, .int z]) (h1 := (124, I, J, R)) rfl ?_
  refine ev_br (b1 := false) rfl rfl (xcd_nlt (x := z) (y := t) (by first | exact b2 | omega)) ?_
  refine ev_go 2 (pc1 := 35) (lv1 := [.ref 0, .int a, .int b, .int t, .int u, .int z]) (st1 := [.ref 0, .int z]) (h1 := (124, I, J, R)) rfl ?_
  refine ev_gf (c := 0) (t := 3) (X := R 0 8) rfl rfl (fun _ => rfl) rfl r_R_0_8 ?_
  refine ev_gf (c := 3) (t := 17) (X := R 3 13) rfl rfl (fun _ => rfl) rfl (hG 3 13 17 rfl rfl) ?_
  refine ev_go 1 (pc1 := 44) (lv1 := [.ref 0, .int a, .int b, .int t, .int u, .int z]) (st1 := [.int (I 17 5), .int z]) (h1 := (124, I, J, R)) rfl ?_
  refine ev_br (b1 := false) rfl rfl (xcd_ngt (x := z) (y := (I 17 5)) (by first | exact b3 | omega)) ?_
  refine ev_go 1 (pc1 := 49) (lv1 := [.ref 0, .int a, .int b, .int t, .int u, .int z]) (st1 := [.int u]) (h1 := (124, I, J, R)) rfl ?_
  refine ev_br (b1 := false) rfl rfl (xcd_nlt (x := u) (y := 0) (by rw [show ((0 : Int32)).toInt = 0 from by decide]; first | exact b4 | omega)) ?_
  refine ev_go 2 (pc1 := 56) (lv1 := [.ref 0, .int a, .int b, .int t, .int u, .int z]) (st1 := [.int 10, .int u]) (h1 := (124, I, J, R)) rfl ?_
  refine ev_br (b1 := false) rfl rfl (xcd_nle (x := u) (y := 10) (by rw [show ((10 : Int32)).toInt = 10 from by decide]; first | exact b5 | omega)) ?_
  refine ev_go 1 (pc1 := 60) (lv1 := [.ref 0, .int a, .int b, .int t, .int u, .int z]) (st1 := [.int 0]) (h1 := (124, I, J, R)) rfl ?_
  exact ev_ret rfl rfl
set_option maxRecDepth 20000 in
theorem qv2_y_3 {L : Nat} {xs : Nat → Int32} {d : Nat} {I : Nat → Nat → Int32} {J : Nat → Nat → Int64} {R : Nat → Nat → Nat} {I1 : Nat → Nat → Int32} {J1 : Nat → Nat → Int64} {a b t u z bar : Int32} (hG : aGd R) (r_R_0_8 : R 0 8 = 4) (c1 : xEv L xs d 59 0 [.ref 3, .int a] [] (124, I, J, R) (some (.int 1)) (124, I, J, R)) (c2 : xEv L xs d 64 0 [.ref 3, .int b] [] (124, I, J, R) (some (.int 1)) (124, I, J, R)) (b1 : t.toInt ≥ 0) (b2 : z.toInt ≥ t.toInt) (b3 : z.toInt ≤ (I 17 5).toInt) (b4 : u.toInt ≥ 0) (b5 : u.toInt ≤ 10) (c3 : xEv L xs d 39 0 [.ref 15, .int a] [] (124, I, J, R) (some (.int bar)) (124, I, J, R)) (c4 : xEv L xs d 113 0 [.ref 53, .ref 17, .int bar, .int b, .int t, .int u, .int z, xmk, xmk, xmk, xmk] [] (124, I, J, R) none (124, I1, J1, R)) : xEv L xs (d + 1) 112 0 [.ref 0, .int a, .int b, .int t, .int u, .int z] [] (124, I, J, R) (some (.int 1)) (124, I1, J1, R) := by
  refine ev_go 1 (pc1 := 1) (lv1 := [.ref 0, .int a, .int b, .int t, .int u, .int z]) (st1 := [.ref 0]) (h1 := (124, I, J, R)) rfl ?_
  refine ev_gf (c := 0) (t := 3) (X := R 0 8) rfl rfl (fun _ => rfl) rfl r_R_0_8 ?_
  refine ev_go 1 (pc1 := 5) (lv1 := [.ref 0, .int a, .int b, .int t, .int u, .int z]) (st1 := [.int a, .ref 3]) (h1 := (124, I, J, R)) rfl ?_
  refine ev_call (v1 := (some (.int 1))) (h1 := (124, I, J, R)) rfl rfl c1 ?_
  refine ev_go 2 (pc1 := 12) (lv1 := [.ref 0, .int a, .int b, .int t, .int u, .int z]) (st1 := [.ref 0]) (h1 := (124, I, J, R)) rfl ?_
  refine ev_gf (c := 0) (t := 3) (X := R 0 8) rfl rfl (fun _ => rfl) rfl r_R_0_8 ?_
  refine ev_go 1 (pc1 := 16) (lv1 := [.ref 0, .int a, .int b, .int t, .int u, .int z]) (st1 := [.int b, .ref 3]) (h1 := (124, I, J, R)) rfl ?_
  refine ev_call (v1 := (some (.int 1))) (h1 := (124, I, J, R)) rfl rfl c2 ?_
  refine ev_go 2 (pc1 := 23) (lv1 := [.ref 0, .int a, .int b, .int t, .int u, .int z]) (st1 := [.int t]) (h1 := (124, I, J, R)) rfl ?_
  refine ev_br (b1 := false) rfl rfl (xcd_nlt (x := t) (y := 0) (by rw [show ((0 : Int32)).toInt = 0 from by decide]; first | exact b1 | omega)) ?_
  refine ev_go 2 (pc1 := 29) (lv1 := [.ref 0, .int a, .int b, .int t, .int u, .int z]) (st1 := [.int t, .int z]) (h1 := (124, I, J, R)) rfl ?_
  refine ev_br (b1 := false) rfl rfl (xcd_nlt (x := z) (y := t) (by first | exact b2 | omega)) ?_
  refine ev_go 2 (pc1 := 35) (lv1 := [.ref 0, .int a, .int b, .int t, .int u, .int z]) (st1 := [.ref 0, .int z]) (h1 := (124, I, J, R)) rfl ?_
  refine ev_gf (c := 0) (t := 3) (X := R 0 8) rfl rfl (fun _ => rfl) rfl r_R_0_8 ?_
  refine ev_gf (c := 3) (t := 17) (X := R 3 13) rfl rfl (fun _ => rfl) rfl (hG 3 13 17 rfl rfl) ?_
  refine ev_go 1 (pc1 := 44) (lv1 := [.ref 0, .int a, .int b, .int t, .int u, .int z]) (st1 := [.int (I 17 5), .int z]) (h1 := (124, I, J, R)) rfl ?_
  refine ev_br (b1 := false) rfl rfl (xcd_ngt (x := z) (y := (I 17 5)) (by first | exact b3 | omega)) ?_
  refine ev_go 1 (pc1 := 49) (lv1 := [.ref 0, .int a, .int b, .int t, .int u, .int z]) (st1 := [.int u]) (h1 := (124, I, J, R)) rfl ?_
  refine ev_br (b1 := false) rfl rfl (xcd_nlt (x := u) (y := 0) (by rw [show ((0 : Int32)).toInt = 0 from by decide]; first | exact b4 | omega)) ?_
  refine ev_go 2 (pc1 := 56) (lv1 := [.ref 0, .int a, .int b, .int t, .int u, .int z]) (st1 := [.int 10, .int u]) (h1 := (124, I, J, R)) rfl ?_
  refine ev_br (b1 := true) rfl rfl (xcd_le (x := u) (y := 10) (by rw [show ((10 : Int32)).toInt = 10 from by decide]; first | exact b5 | omega)) ?_
  refine ev_go 1 (pc1 := 62) (lv1 := [.ref 0, .int a, .int b, .int t, .int u, .int z]) (st1 := [.ref 0]) (h1 := (124, I, J, R)) rfl ?_
  refine ev_gf (c := 0) (t := 53) (X := R 0 4) rfl rfl (fun _ => rfl) rfl (hG 0 4 53 rfl rfl) ?_
  refine ev_go 1 (pc1 := 66) (lv1 := [.ref 0, .int a, .int b, .int t, .int u, .int z]) (st1 := [.ref 0, .ref 53]) (h1 := (124, I, J, R)) rfl ?_
  refine ev_gf (c := 0) (t := 3) (X := R 0 8) rfl rfl (fun _ => rfl) rfl r_R_0_8 ?_
  refine ev_gf (c := 3) (t := 17) (X := R 3 13) rfl rfl (fun _ => rfl) rfl (hG 3 13 17 rfl rfl) ?_
  refine ev_go 1 (pc1 := 73) (lv1 := [.ref 0, .int a, .int b, .int t, .int u, .int z]) (st1 := [.ref 0, .ref 17, .ref 53]) (h1 := (124, I, J, R)) rfl ?_
  refine ev_gf (c := 0) (t := 3) (X := R 0 8) rfl rfl (fun _ => rfl) rfl r_R_0_8 ?_
  refine ev_gf (c := 3) (t := 15) (X := R 3 11) rfl rfl (fun _ => rfl) rfl (hG 3 11 15 rfl rfl) ?_
  refine ev_go 1 (pc1 := 80) (lv1 := [.ref 0, .int a, .int b, .int t, .int u, .int z]) (st1 := [.int a, .ref 15, .ref 17, .ref 53]) (h1 := (124, I, J, R)) rfl ?_
  refine ev_call (v1 := (some (.int bar))) (h1 := (124, I, J, R)) rfl rfl c3 ?_
  refine ev_go 4 (pc1 := 89) (lv1 := [.ref 0, .int a, .int b, .int t, .int u, .int z]) (st1 := [.int z, .int u, .int t, .int b, .int bar, .ref 17, .ref 53]) (h1 := (124, I, J, R)) rfl ?_
  refine ev_call (v1 := none) (h1 := (124, I1, J1, R)) rfl rfl c4 ?_
  refine ev_go 1 (pc1 := 93) (lv1 := [.ref 0, .int a, .int b, .int t, .int u, .int z]) (st1 := [.int 1]) (h1 := (124, I1, J1, R)) rfl ?_
  exact ev_ret rfl rfl
set_option maxRecDepth 20000 in
theorem qv3_p_3 {L : Nat} {xs : Nat → Int32} {d : Nat} {I : Nat → Nat → Int32} {J : Nat → Nat → Int64} {R : Nat → Nat → Nat} {a b t u z p : Int32} (hG : aGd R) (r_R_0_8 : R 0 8 = 4) (c1 : xEv L xs d 64 0 [.ref 3, .int p] [] (124, I, J, R) (some (.int 0)) (124, I, J, R)) : xEv L xs (d + 1) 111 0 [.ref 0, .int a, .int b, .int t, .int u, .int z, .int p] [] (124, I, J, R) (some (.int (-2))) (124, I, J, R) := by
  refine ev_go 1 (pc1 := 1) (lv1 := [.ref 0, .int a, .int b, .int t, .int u, .int z, .int p]) (st1 := [.ref 0]) (h1 := (124, I, J, R)) rfl ?_
  refine ev_gf (c := 0) (t := 3) (X := R 0 8) rfl rfl (fun _ => rfl) rfl r_R_0_8 ?_
  refine ev_go 1 (pc1 := 6) (lv1 := [.ref 0, .int a, .int b, .int t, .int u, .int z, .int p]) (st1 := [.int p, .ref 3]) (h1 := (124, I, J, R)) rfl ?_
  refine ev_call (v1 := (some (.int 0))) (h1 := (124, I, J, R)) rfl rfl c1 ?_
  refine ev_go 2 (pc1 := 28) (lv1 := [.ref 0, .int a, .int b, .int t, .int u, .int z, .int p]) (st1 := [.int (-2)]) (h1 := (124, I, J, R)) rfl ?_
  exact ev_ret rfl rfl
set_option maxRecDepth 20000 in
theorem qv3_s_3 {L : Nat} {xs : Nat → Int32} {d : Nat} {I : Nat → Nat → Int32} {J : Nat → Nat → Int64} {R : Nat → Nat → Nat} {a b t u z p : Int32} (hG : aGd R) (r_R_0_8 : R 0 8 = 4) (c1 : xEv L xs d 64 0 [.ref 3, .int p] [] (124, I, J, R) (some (.int 1)) (124, I, J, R)) (c2 : xEv L xs d 112 0 [.ref 0, .int a, .int b, .int t, .int u, .int z] [] (124, I, J, R) (some (.int 0)) (124, I, J, R)) : xEv L xs (d + 1) 111 0 [.ref 0, .int a, .int b, .int t, .int u, .int z, .int p] [] (124, I, J, R) (some (.int (-2))) (124, I, J, R) := by
  refine ev_go 1 (pc1 := 1) (lv1 := [.ref 0, .int a, .int b, .int t, .int u, .int z, .int p]) (st1 := [.ref 0]) (h1 := (124, I, J, R)) rfl ?_
  refine ev_gf (c := 0) (t := 3) (X := R 0 8) rfl rfl (fun _ => rfl) rfl r_R_0_8 ?_
  refine ev_go 1 (pc1 := 6) (lv1 := [.ref 0, .int a, .int b, .int t, .int u, .int z, .int p]) (st1 := [.int p, .ref 3]) (h1 := (124, I, J, R)) rfl ?_
  refine ev_call (v1 := (some (.int 1))) (h1 := (124, I, J, R)) rfl rfl c1 ?_
  refine ev_go 7 (pc1 := 20) (lv1 := [.ref 0, .int a, .int b, .int t, .int u, .int z, .int p]) (st1 := [.int z, .int u, .int t, .int b, .int a, .ref 0]) (h1 := (124, I, J, R)) rfl ?_
  refine ev_call (v1 := (some (.int 0))) (h1 := (124, I, J, R)) rfl rfl c2 ?_
  refine ev_go 2 (pc1 := 28) (lv1 := [.ref 0, .int a, .int b, .int t, .int u, .int z, .int p]) (st1 := [.int (-2)]) (h1 := (124, I, J, R)) rfl ?_
  exact ev_ret rfl rfl
set_option maxRecDepth 20000 in
theorem qv3_y_3 {L : Nat} {xs : Nat → Int32} {d : Nat} {I : Nat → Nat → Int32} {J : Nat → Nat → Int64} {R : Nat → Nat → Nat} {I1 : Nat → Nat → Int32} {J1 : Nat → Nat → Int64} {a b t u z p r1 : Int32} (hG : aGd R) (r_R_0_8 : R 0 8 = 4) (c1 : xEv L xs d 64 0 [.ref 3, .int p] [] (124, I, J, R) (some (.int 1)) (124, I, J, R)) (c2 : xEv L xs d 112 0 [.ref 0, .int a, .int b, .int t, .int u, .int z] [] (124, I, J, R) (some (.int 1)) (124, I1, J1, R)) (c3 : xEv L xs d 79 0 [.ref 53, .int p] [] (124, I1, J1, R) (some (.int r1)) (124, I1, J1, R)) : xEv L xs (d + 1) 111 0 [.ref 0, .int a, .int b, .int t, .int u, .int z, .int p] [] (124, I, J, R) (some (.int r1)) (124, I1, J1, R) := by
  refine ev_go 1 (pc1 := 1) (lv1 := [.ref 0, .int a, .int b, .int t, .int u, .int z, .int p]) (st1 := [.ref 0]) (h1 := (124, I, J, R)) rfl ?_
  refine ev_gf (c := 0) (t := 3) (X := R 0 8) rfl rfl (fun _ => rfl) rfl r_R_0_8 ?_
  refine ev_go 1 (pc1 := 6) (lv1 := [.ref 0, .int a, .int b, .int t, .int u, .int z, .int p]) (st1 := [.int p, .ref 3]) (h1 := (124, I, J, R)) rfl ?_
  refine ev_call (v1 := (some (.int 1))) (h1 := (124, I, J, R)) rfl rfl c1 ?_
  refine ev_go 7 (pc1 := 20) (lv1 := [.ref 0, .int a, .int b, .int t, .int u, .int z, .int p]) (st1 := [.int z, .int u, .int t, .int b, .int a, .ref 0]) (h1 := (124, I, J, R)) rfl ?_
  refine ev_call (v1 := (some (.int 1))) (h1 := (124, I1, J1, R)) rfl rfl c2 ?_
  refine ev_go 2 (pc1 := 30) (lv1 := [.ref 0, .int a, .int b, .int t, .int u, .int z, .int p]) (st1 := [.ref 0]) (h1 := (124, I1, J1, R)) rfl ?_
  refine ev_gf (c := 0) (t := 53) (X := R 0 4) rfl rfl (fun _ => rfl) rfl (hG 0 4 53 rfl rfl) ?_
  refine ev_go 1 (pc1 := 35) (lv1 := [.ref 0, .int a, .int b, .int t, .int u, .int z, .int p]) (st1 := [.int p, .ref 53]) (h1 := (124, I1, J1, R)) rfl ?_
  refine ev_call (v1 := (some (.int r1))) (h1 := (124, I1, J1, R)) rfl rfl c3 ?_
  exact ev_ret rfl rfl
set_option maxRecDepth 20000 in
theorem qv4_n_3 {L : Nat} {xs : Nat → Int32} {d : Nat} {I : Nat → Nat → Int32} {J : Nat → Nat → Int64} {R : Nat → Nat → Nat} {a b t u z : Int32} (hG : aGd R) (c1 : xEv L xs d 112 0 [.ref 0, .int a, .int b, .int t, .int u, .int z] [] (124, I, J, R) (some (.int 0)) (124, I, J, R)) : xEv L xs (d + 1) 114 0 [.ref 0, .int a, .int b, .int t, .int u, .int z, xmk, xmk] [] (124, I, J, R) (some (.int (-2))) (124, I, J, R) := by
  refine ev_go 6 (pc1 := 8) (lv1 := [.ref 0, .int a, .int b, .int t, .int u, .int z, xmk, xmk]) (st1 := [.int z, .int u, .int t, .int b, .int a, .ref 0]) (h1 := (124, I, J, R)) rfl ?_
  refine ev_call (v1 := (some (.int 0))) (h1 := (124, I, J, R)) rfl rfl c1 ?_
  refine ev_go 2 (pc1 := 16) (lv1 := [.ref 0, .int a, .int b, .int t, .int u, .int z, xmk, xmk]) (st1 := [.int (-2)]) (h1 := (124, I, J, R)) rfl ?_
  exact ev_ret rfl rfl
set_option maxRecDepth 20000 in
theorem qv4_s_3 {L : Nat} {xs : Nat → Int32} {d : Nat} {I : Nat → Nat → Int32} {J : Nat → Nat → Int64} {R : Nat → Nat → Nat} {I1 : Nat → Nat → Int32} {J1 : Nat → Nat → Int64} {a b t u z : Int32} (hG : aGd R) (c1 : xEv L xs d 112 0 [.ref 0, .int a, .int b, .int t, .int u, .int z] [] (124, I, J, R) (some (.int 1)) (124, I1, J1, R)) {v : Option Value} {h' : xH} (hk : xEv L xs (d + 1) 114 23 [.ref 0, .int a, .int b, .int t, .int u, .int z, .int 0, .int 1] [] (124, I1, J1, R) v h') : xEv L xs (d + 1) 114 0 [.ref 0, .int a, .int b, .int t, .int u, .int z, xmk, xmk] [] (124, I, J, R) v h' := by
  refine ev_go 6 (pc1 := 8) (lv1 := [.ref 0, .int a, .int b, .int t, .int u, .int z, xmk, xmk]) (st1 := [.int z, .int u, .int t, .int b, .int a, .ref 0]) (h1 := (124, I, J, R)) rfl ?_
  refine ev_call (v1 := (some (.int 1))) (h1 := (124, I1, J1, R)) rfl rfl c1 ?_
  refine ev_go 5 (pc1 := 23) (lv1 := [.ref 0, .int a, .int b, .int t, .int u, .int z, .int 0, .int 1]) (st1 := []) (h1 := (124, I1, J1, R)) rfl ?_
  exact hk
set_option maxRecDepth 20000 in
theorem qv4_e_3 {L : Nat} {xs : Nat → Int32} {d : Nat} {I : Nat → Nat → Int32} {J : Nat → Nat → Int64} {R : Nat → Nat → Nat} {a b t u z m q : Int32} (hG : aGd R) (r_R_0_8 : R 0 8 = 4) (b1 : q.toInt ≥ (I 3 14).toInt) : xEv L xs d 114 23 [.ref 0, .int a, .int b, .int t, .int u, .int z, .int m, .int q] [] (124, I, J, R) (some (.int m)) (124, I, J, R) := by
  refine ev_go 2 (pc1 := 26) (lv1 := [.ref 0, .int a, .int b, .int t, .int u, .int z, .int m, .int q]) (st1 := [.ref 0, .int q]) (h1 := (124, I, J, R)) rfl ?_
  refine ev_gf (c := 0) (t := 3) (X := R 0 8) rfl rfl (fun _ => rfl) rfl r_R_0_8 ?_
  refine ev_go 1 (pc1 := 32) (lv1 := [.ref 0, .int a, .int b, .int t, .int u, .int z, .int m, .int q]) (st1 := [.int (I 3 14), .int q]) (h1 := (124, I, J, R)) rfl ?_
  refine ev_br (b1 := true) rfl rfl (xcd_ge (x := q) (y := (I 3 14)) (by first | exact b1 | omega)) ?_
  refine ev_go 1 (pc1 := 61) (lv1 := [.ref 0, .int a, .int b, .int t, .int u, .int z, .int m, .int q]) (st1 := [.int m]) (h1 := (124, I, J, R)) rfl ?_
  exact ev_ret rfl rfl
set_option maxRecDepth 20000 in
theorem qv4_y_3 {L : Nat} {xs : Nat → Int32} {d : Nat} {I : Nat → Nat → Int32} {J : Nat → Nat → Int64} {R : Nat → Nat → Nat} {a b t u z m q o : Int32} (hG : aGd R) (r_R_0_8 : R 0 8 = 4) (b1 : q.toInt < (I 3 14).toInt) (c1 : xEv L xs d 72 0 [.ref 53, .int q, .int m, xmk, xmk] [] (124, I, J, R) (some (.int o)) (124, I, J, R)) (b2 : o.toInt > 0) {v : Option Value} {h' : xH} (hk : xEv L xs (d + 1) 114 23 [.ref 0, .int a, .int b, .int t, .int u, .int z, .int q, .int (q + 1)] [] (124, I, J, R) v h') : xEv L xs (d + 1) 114 23 [.ref 0, .int a, .int b, .int t, .int u, .int z, .int m, .int q] [] (124, I, J, R) v h' := by
  refine ev_go 2 (pc1 := 26) (lv1 := [.ref 0, .int a, .int b, .int t, .int u, .int z, .int m, .int q]) (st1 := [.ref 0, .int q]) (h1 := (124, I, J, R)) rfl ?_
  refine ev_gf (c := 0) (t := 3) (X := R 0 8) rfl rfl (fun _ => rfl) rfl r_R_0_8 ?_
  refine ev_go 1 (pc1 := 32) (lv1 := [.ref 0, .int a, .int b, .int t, .int u, .int z, .int m, .int q]) (st1 := [.int (I 3 14), .int q]) (h1 := (124, I, J, R)) rfl ?_
  refine ev_br (b1 := false) rfl rfl (xcd_nge (x := q) (y := (I 3 14)) (by first | exact b1 | omega)) ?_
  refine ev_go 1 (pc1 := 36) (lv1 := [.ref 0, .int a, .int b, .int t, .int u, .int z, .int m, .int q]) (st1 := [.ref 0]) (h1 := (124, I, J, R)) rfl ?_
  refine ev_gf (c := 0) (t := 53) (X := R 0 4) rfl rfl (fun _ => rfl) rfl (hG 0 4 53 rfl rfl) ?_
  refine ev_go 2 (pc1 := 43) (lv1 := [.ref 0, .int a, .int b, .int t, .int u, .int z, .int m, .int q]) (st1 := [.int m, .int q, .ref 53]) (h1 := (124, I, J, R)) rfl ?_
  refine ev_call (v1 := (some (.int o))) (h1 := (124, I, J, R)) rfl rfl c1 ?_
  refine ev_br (b1 := false) rfl rfl (xcd_nle (x := o) (y := 0) (by rw [show ((0 : Int32)).toInt = 0 from by decide]; first | exact b2 | omega)) ?_
  refine ev_go 4 (pc1 := 23) (lv1 := [.ref 0, .int a, .int b, .int t, .int u, .int z, .int q, .int (q + 1)]) (st1 := []) (h1 := (124, I, J, R)) rfl ?_
  exact hk
set_option maxRecDepth 20000 in
theorem qv4_k_3 {L : Nat} {xs : Nat → Int32} {d : Nat} {I : Nat → Nat → Int32} {J : Nat → Nat → Int64} {R : Nat → Nat → Nat} {a b t u z m q o : Int32} (hG : aGd R) (r_R_0_8 : R 0 8 = 4) (b1 : q.toInt < (I 3 14).toInt) (c1 : xEv L xs d 72 0 [.ref 53, .int q, .int m, xmk, xmk] [] (124, I, J, R) (some (.int o)) (124, I, J, R)) (b2 : o.toInt ≤ 0) {v : Option Value} {h' : xH} (hk : xEv L xs (d + 1) 114 23 [.ref 0, .int a, .int b, .int t, .int u, .int z, .int m, .int (q + 1)] [] (124, I, J, R) v h') : xEv L xs (d + 1) 114 23 [.ref 0, .int a, .int b, .int t, .int u, .int z, .int m, .int q] [] (124, I, J, R) v h' := by
  refine ev_go 2 (pc1 := 26) (lv1 := [.ref 0, .int a, .int b, .int t, .int u, .int z, .int m, .int q]) (st1 := [.ref 0, .int q]) (h1 := (124, I, J, R)) rfl ?_
  refine ev_gf (c := 0) (t := 3) (X := R 0 8) rfl rfl (fun _ => rfl) rfl r_R_0_8 ?_
  refine ev_go 1 (pc1 := 32) (lv1 := [.ref 0, .int a, .int b, .int t, .int u, .int z, .int m, .int q]) (st1 := [.int (I 3 14), .int q]) (h1 := (124, I, J, R)) rfl ?_
  refine ev_br (b1 := false) rfl rfl (xcd_nge (x := q) (y := (I 3 14)) (by first | exact b1 | omega)) ?_
  refine ev_go 1 (pc1 := 36) (lv1 := [.ref 0, .int a, .int b, .int t, .int u, .int z, .int m, .int q]) (st1 := [.ref 0]) (h1 := (124, I, J, R)) rfl ?_
  refine ev_gf (c := 0) (t := 53) (X := R 0 4) rfl rfl (fun _ => rfl) rfl (hG 0 4 53 rfl rfl) ?_
  refine ev_go 2 (pc1 := 43) (lv1 := [.ref 0, .int a, .int b, .int t, .int u, .int z, .int m, .int q]) (st1 := [.int m, .int q, .ref 53]) (h1 := (124, I, J, R)) rfl ?_
  refine ev_call (v1 := (some (.int o))) (h1 := (124, I, J, R)) rfl rfl c1 ?_
  refine ev_br (b1 := true) rfl rfl (xcd_le (x := o) (y := 0) (by rw [show ((0 : Int32)).toInt = 0 from by decide]; first | exact b2 | omega)) ?_
  refine ev_go 2 (pc1 := 23) (lv1 := [.ref 0, .int a, .int b, .int t, .int u, .int z, .int m, .int (q + 1)]) (st1 := []) (h1 := (124, I, J, R)) rfl ?_
  exact hk
theorem qw_step_3 {L : Nat} {xs : Nat → Int32} {d : Nat} {I : Nat → Nat → Int32} {J : Nat → Nat → Int64} {R : Nat → Nat → Nat} (hG : aGd R) {bar fr tm u z i : Int32} {w8 w9 wa : Value} {un tN aN bN : Nat} (hu : (I 53 1).toInt = un) (h1 : 1 ≤ un) (h9 : un ≤ 9) (gj : cG J un) (ht : i.toInt < z.toInt) (et : i.toInt = tN) (t64 : tN < 64) (ha : (I 20 tN).toInt = aN) (hb : (I 21 tN).toInt = bN) (a7 : aN < 7) (b7 : bN < 7) (hab : aN ≠ bN) (hc0 : 0 ≤ ((I 22 tN) * u).toInt) (hc1 : ((I 22 tN) * u).toInt ≤ 100) (va : cV J un aN ≤ tn (16 * (un - 1))) (vb : cV J un bN ≤ tn (16 * (un - 1))) {mx my : Int} (hx : (qhu bar (I 21 tN) ((I 22 tN) * u)).toInt * cV J un aN = 100 * mx) (hy : (qhu bar (I 20 tN) ((I 22 tN) * u)).toInt * cV J un bN = 100 * my) :
    ∃ (J' : Nat → Nat → Int64) (w8' w9' wa' : Value), (∀ (v : Option Value) (h' : xH), xEv L xs (d + 2) 113 16 [.ref 53, .ref 17, .int bar, .int fr, .int tm, .int u, .int z, .int (i + 1), w8', w9', wa'] [] (124, I, J', R) v h' → xEv L xs (d + 2) 113 16 [.ref 53, .ref 17, .int bar, .int fr, .int tm, .int u, .int z, .int i, w8, w9, wa] [] (124, I, J, R) v h') ∧ (∀ c, c ≠ 54 → ∀ q, J' c q = J c q) ∧ cG J' un ∧ cV J' un aN = cV J un aN - mx + my ∧ cV J' un bN = cV J un bN - my + mx ∧ ∀ p, p < 7 → p ≠ aN → p ≠ bN → cV J' un p = cV J un p := by
  have ec := clamp_s (i := i) (by omega)
  have ekt : i.toNatClampNeg = tN := by omega
  have at1 : ∀ c, (∀ g : FieldType → Nat → Option xR, xarr (124, I, J, R) c g = g .int 64) → ∀ d, xEv L xs d 39 0 [.ref c, .int i] [] (124, I, J, R) (some (.int (I c tN))) (124, I, J, R) := by
    intro c ho d
    have h4 := at_run (L := L) (xs := xs) (d := d) (h := (124, I, J, R)) ho (by decide) i
    rw [if_pos ⟨by omega, by omega⟩, ekt] at h4
    exact h4
  have k1 := at1 20 (fun _ => rfl) (d + 1)
  have k2 := at1 21 (fun _ => rfl) (d + 1)
  have k3 := at1 22 (fun _ => rfl) (d + 1)
  have ba := qhu_b (n := bar) (w := I 20 tN) hc0 hc1
  have bb := qhu_b (n := bar) (w := I 21 tN) hc0 hc1
  obtain ⟨J1, J2, J3, J4, J5, J6, J7, J8, o1, o2, o3, o4, o5, o6, o7, o8, o9, oa, ob, oc, od⟩ := qw_ops (L := L) (xs := xs) (d := d) (I := I) (J := J) hG (fa := qhu bar (I 20 tN) ((I 22 tN) * u)) (fb := qhu bar (I 21 tN) ((I 22 tN) * u)) hu h1 h9 ha hb a7 b7 hab ba.1 ba.2 bb.1 bb.2 gj va vb hx hy
  refine ⟨J8, .int (I 20 tN), .int (I 21 tN), .int ((I 22 tN) * u), fun v h' zz => ?_, o9, oa, ob, oc, od⟩
  by_cases hb0 : ((bar >>> (I 21 tN &&& 31)) &&& 1).toInt = 0
  · rw [show qhu bar (I 21 tN) ((I 22 tN) * u) = (I 22 tN) * u from if_pos hb0] at o2
    by_cases ha0 : ((bar >>> (I 20 tN &&& 31)) &&& 1).toInt = 0
    · rw [show qhu bar (I 20 tN) ((I 22 tN) * u) = (I 22 tN) * u from if_pos ha0] at o4
      exact qw_00_3 hG ht k1 k2 k3 o1 hb0 o2 o3 ha0 o4 o5 o6 o7 o8 zz
    · rw [show qhu bar (I 20 tN) ((I 22 tN) * u) = 0 from if_neg ha0] at o4
      exact qw_01_3 hG ht k1 k2 k3 o1 hb0 o2 o3 ha0 o4 o5 o6 o7 o8 zz
  · rw [show qhu bar (I 21 tN) ((I 22 tN) * u) = 0 from if_neg hb0] at o2
    by_cases ha0 : ((bar >>> (I 20 tN &&& 31)) &&& 1).toInt = 0
    · rw [show qhu bar (I 20 tN) ((I 22 tN) * u) = (I 22 tN) * u from if_pos ha0] at o4
      exact qw_10_3 hG ht k1 k2 k3 o1 hb0 o2 o3 ha0 o4 o5 o6 o7 o8 zz
    · rw [show qhu bar (I 20 tN) ((I 22 tN) * u) = 0 from if_neg ha0] at o4
      exact qw_11_3 hG ht k1 k2 k3 o1 hb0 o2 o3 ha0 o4 o5 o6 o7 o8 zz
theorem qlw_3 {L : Nat} {xs : Nat → Int32} {d d' : Nat} {R Rr : Nat → Nat → Nat} (hG : aGd R) (hGr : aGd Rr) {np nm nn : Nat} {l : List (Nat × Nat)} {I0 I Ir0 : Nat → Nat → Int32} (hV : VR_3 np nm nn l I0 Ir0) (hI : ∀ c k, ¬ (c = 53 ∧ k = 1) → I c k = I0 c k) (hch : ∀ q, q < 16 → 0 ≤ (Ir0 95 q).toInt ∧ (Ir0 95 q).toInt ≤ 10) {fr tm u z nw : Int32} {un zN : Nat} (hu : (I 53 1).toInt = un) (h1 : 1 ≤ un) (h9 : un ≤ 9) (hz : z.toInt = zN) (zl : zN ≤ l.length) (u0 : 0 ≤ u.toInt) (u10 : u.toInt ≤ 10) (n0 : 0 ≤ nw.toInt) (n4 : nw.toInt < nn) : ∀ (n sN tN : Nat) (t : Int32) (w8 w9 wa u7 u8 u9 ua ub uc : Value) (Ir : Nat → Nat → Int32) (J Jr : Nat → Nat → Int64), tN + n = zN → t.toInt = tN → sN + 2 * n ≤ 16 * (un - 1) → sN + 2 * n ≤ 128 → (∀ c k, ¬ (c = 86 ∧ k = 40) → Ir c k = Ir0 c k) → (Ir 86 40).toInt = sN → cG J un → rG Jr → (∀ p, p < np → cV J un p = rV Jr p * tn (16 * (un - 1) - sN)) → sT 0 (rV Jr) np = tn sN →
    ∃ (Ir' : Nat → Nat → Int32) (J' Jr' : Nat → Nat → Int64), xEv L xs (d + 2) 113 16 [.ref 53, .ref 17, .int (Ir0 100 nw.toNatClampNeg), .int fr, .int tm, .int u, .int z, .int t, w8, w9, wa] [] (124, I, J, R) none (124, I, J', R) ∧ xEv L xs (d' + 1) 217 17 [.ref 86, .int nw, .int fr, .int tm, .int u, .int z, .int t, u7, u8, u9, ua, ub, uc] [] (124, Ir, Jr, Rr) none (124, Ir', Jr', Rr) ∧ (∀ c k, ¬ (c = 86 ∧ k = 40) → Ir' c k = Ir0 c k) ∧ (Ir' 86 40).toInt = (sN + 2 * n : Nat) ∧ (∀ c, c ≠ 54 → ∀ q, J' c q = J c q) ∧ cG J' un ∧ rG Jr' ∧ (∀ p, p < np → cV J' un p = rV Jr' p * tn (16 * (un - 1) - (sN + 2 * n)) ∧ rV Jr' p ≤ tn (sN + 2 * n)) := by
  have hV0 := hV
  obtain ⟨⟨p1, p2, p3⟩, p4, p5, p6, ⟨q1, q2⟩, ⟨q3, q4⟩, ⟨q5, q6⟩, q7, -⟩ := hV
  intro n
  induction n with
  | zero =>
    intro sN tN t w8 w9 wa u7 u8 u9 ua ub uc Ir J Jr ht et sE s8 hIr hs gj gr hR hS
    have sl := s0_le (f := rV Jr) np (fun q hq => (rV_b (gr q (by omega))).1)
    exact ⟨Ir, J, Jr, qw_e_3 hG (by omega), qqw_e hGr (by omega), hIr, by rw [Nat.mul_zero, Nat.add_zero]; exact hs, fun _ _ _ => rfl, gj, gr, fun p hp => by rw [Nat.mul_zero, Nat.add_zero]; exact ⟨hR p hp, by rw [← hS]; exact sl.2 p hp⟩⟩
  | succ n ih =>
    intro sN tN t w8 w9 wa u7 u8 u9 ua ub uc Ir J Jr ht et sE s8 hIr hs gj gr hR hS
    have ec := clamp_s (i := t) (by omega)
    have ekt : t.toNatClampNeg = tN := by omega
    have hk' : (t + 1).toInt = (tN + 1 : Nat) := by rw [i_add1 (by omega)]; omega
    obtain ⟨b, hb, -, e1, e2, e3, e4, g1, g2, g3, g4, g5⟩ := tmz_3 hV0 (t := tN) (by omega)
    obtain ⟨aN, ha⟩ := Int.eq_ofNat_of_zero_le g1
    obtain ⟨bN, hbN⟩ := Int.eq_ofNat_of_zero_le g3
    obtain ⟨c0, c10⟩ := hch b (by omega)
    have cu0 := Int.mul_nonneg c0 u0
    have cu1 := Int.mul_le_mul c10 u10 u0 (by decide)
    have ecu : ((Ir0 95 b) * u).toInt = (Ir0 95 b).toInt * u.toInt := i_mul (by omega) (by omega)
    have sl := s0_le (f := rV Jr) np (fun q hq => (rV_b (gr q (by omega))).1)
    rw [hS] at sl
    have va := sl.2 aN (by omega)
    have vb := sl.2 bN (by omega)
    have ra := hR aN (by omega)
    have rb := hR bN (by omega)
    obtain ⟨E, hE⟩ : ∃ E, 16 * (un - 1) - sN = E + 2 := ⟨16 * (un - 1) - sN - 2, by omega⟩
    have hE2 : 16 * (un - 1) - (sN + 2) = E := by omega
    have tE : tn (E + 2) = 100 * tn E := by
      rw [tn_1 (E + 1), tn_1 E]
      omega
    have tpos := tn_pos E
    have tpos1 := tn_pos (E + 2)
    rw [hE] at ra rb
    have full : tn (16 * (un - 1)) = tn sN * tn (E + 2) := by rw [← tn_add]; congr 1; omega
    have ca : cV J un aN ≤ tn (16 * (un - 1)) := by rw [ra, full]; exact Int.mul_le_mul_of_nonneg_right va (Int.le_of_lt tpos1)
    have cb : cV J un bN ≤ tn (16 * (un - 1)) := by rw [rb, full]; exact Int.mul_le_mul_of_nonneg_right vb (Int.le_of_lt tpos1)
    have f1 : I 20 tN = Ir0 92 b := by rw [hI _ _ (by omega)]; exact e2
    have f2 : I 21 tN = Ir0 93 b := by rw [hI _ _ (by omega)]; exact e3
    have f3 : I 22 tN = Ir0 95 b := by rw [hI _ _ (by omega)]; exact e4
    have r92 : Ir 92 b = Ir0 92 b := hIr _ _ (by omega)
    have r93 : Ir 93 b = Ir0 93 b := hIr _ _ (by omega)
    have r95 : Ir 95 b = Ir0 95 b := hIr _ _ (by omega)
    have r100 : Ir 100 nw.toNatClampNeg = Ir0 100 nw.toNatClampNeg := hIr _ _ (by omega)
    obtain ⟨qa, hqa⟩ : ∃ x, qhu (Ir0 100 nw.toNatClampNeg) (Ir0 92 b) ((Ir0 95 b) * u) = x := ⟨_, rfl⟩
    obtain ⟨qb, hqb⟩ : ∃ x, qhu (Ir0 100 nw.toNatClampNeg) (Ir0 93 b) ((Ir0 95 b) * u) = x := ⟨_, rfl⟩
    have hx : qb.toInt * cV J un aN = 100 * (qb.toInt * rV Jr aN * tn E) := by
      rw [ra, tE]
      ac_rfl
    have hy : qa.toInt * cV J un bN = 100 * (qa.toInt * rV Jr bN * tn E) := by
      rw [rb, tE]
      ac_rfl
    obtain ⟨J1, w8', w9', wa', x1, x2, x3, x4, x5, x6⟩ := qw_step_3 (L := L) (xs := xs) (d := d) (I := I) (J := J) hG (bar := Ir0 100 nw.toNatClampNeg) (fr := fr) (tm := tm) (u := u) (z := z) (i := t) (w8 := w8) (w9 := w9) (wa := wa) hu h1 h9 gj (by omega) et (by omega) (by rw [f1]; exact ha) (by rw [f2]; exact hbN) (by omega) (by omega) (by omega) (by rw [f3]; omega) (by rw [f3]; omega) ca cb (by rw [f2, f3, hqb]; exact hx) (by rw [f1, f3, hqa]; exact hy)
    obtain ⟨Jr1, u7', u8', u9', ua', ub', uc', y1, y2, y3, y4, y5⟩ := qqw_step (L := L) (xs := xs) (d := d') (I := Ir) (J := Jr) hGr (nw := nw) (fr := fr) (tm := tm) (u := u) (z := z) (t := t) (w7 := u7) (w8 := u8) (w9 := u9) (wa := ua) (wb := ub) (wc := uc) (np := np) (sN := sN) (mN := b) (aN := aN) (bN := bN) (by rw [hIr _ _ (by omega)]; exact q2) p1 (by omega) hs gr sl.2 (by omega) (by omega) (by omega) (by rw [ekt, hIr _ _ (by omega)]; exact e1) (by omega) (by rw [r92]; exact ha) (by rw [r93]; exact hbN) (by omega) (by omega) (by omega) n0 (by omega) (by rw [r95]; omega) (by rw [r95]; omega)
    rw [r100, r92, r93, r95, hqa, hqb] at y3 y4
    have s40 : ((uI Ir 86 40 (Ir 86 40 + 2)) 86 40).toInt = (sN + 2 : Nat) := by rw [uI_s, i_add (by rw [show (2 : Int32).toInt = 2 from by decide]; omega) (by rw [show (2 : Int32).toInt = 2 from by decide]; omega), show (2 : Int32).toInt = 2 from by decide]; omega
    have hR1 : ∀ p, p < np → cV J1 un p = rV Jr1 p * tn (16 * (un - 1) - (sN + 2)) := by
      intro p hp
      rw [hE2]
      by_cases ea : p = aN
      · rw [ea, x4, y3, ra, tE, Int.add_mul, Int.sub_mul, Int.sub_mul]
        have z1 : rV Jr aN * (100 * tn E) = 100 * rV Jr aN * tn E := by ac_rfl
        rw [z1]
      · by_cases eb : p = bN
        · rw [eb, x5, y4, rb, tE, Int.add_mul, Int.sub_mul, Int.sub_mul]
          have z1 : rV Jr bN * (100 * tn E) = 100 * rV Jr bN * tn E := by ac_rfl
          rw [z1]
        · have hh := hR p hp
          rw [hE] at hh
          rw [x6 p (by omega) ea eb, y5 p hp ea eb, hh, tE]
          ac_rfl
    have hS1 : sT 0 (rV Jr1) np = tn (sN + 2) := by
      have z := s0_2 (f := rV Jr) (g := rV Jr1) (k := 100) (a := aN) (b := bN) (by omega) np (fun q hq h1 h2 => y5 q hq h1 h2)
      rw [if_pos (by omega), if_pos (by omega), hS, y3, y4, Int.sub_mul, Int.sub_mul] at z
      have t3 : tn (sN + 2) = tn sN * 10 * 10 := by rw [tn_1 (sN + 1), tn_1 sN]
      rw [z, t3]
      omega
    obtain ⟨Ir', J', Jr', v1, v2, v3, v4, v5, v6, v7, v8⟩ := ih (sN + 2) (tN + 1) (t + 1) w8' w9' wa' u7' u8' u9' ua' ub' uc' (uI Ir 86 40 (Ir 86 40 + 2)) J1 Jr1 (by omega) hk' (by omega) (by omega) (fun c k hc => by rw [uI_n _ _ hc]; exact hIr c k hc) s40 x3 y2 hR1 hS1
    rw [show sN + 2 + 2 * n = sN + 2 * (n + 1) from by omega] at v4 v8
    exact ⟨Ir', J', Jr', x1 _ _ v1, y1 _ _ v2, v3, v4, fun c hc q => by rw [v5 c hc q, x2 c hc q], v6, v7, v8⟩
/-- both spread, or neither does -/
theorem spr_3 {L : Nat} {xs : Nat → Int32} {d d' : Nat} {I Ir : Nat → Nat → Int32} {J Jr : Nat → Nat → Int64} {R Rr : Nat → Nat → Nat} (hG : aGd R) (hGr : aGd Rr) (h8 : R 0 8 = 4) {np nm nn : Nat} {l : List (Nat × Nat)} (hV : VR_3 np nm nn l I Ir) (hch : ∀ q, q < 16 → 0 ≤ (Ir 95 q).toInt ∧ (Ir 95 q).toInt ≤ 10) (a b t u z : Int32) :
    (xEv L xs (d + 4) 112 0 [.ref 0, .int a, .int b, .int t, .int u, .int z] [] (124, I, J, R) (some (.int 0)) (124, I, J, R) ∧ xEv L xs (d' + 2) 216 0 [.ref 86, .int a, .int b, .int t, .int u, .int z] [] (124, Ir, Jr, Rr) (some (.int 0)) (124, Ir, Jr, Rr)) ∨
    (∃ (I' Ir' : Nat → Nat → Int32) (J' Jr' : Nat → Nat → Int64) (un n : Nat), xEv L xs (d + 4) 112 0 [.ref 0, .int a, .int b, .int t, .int u, .int z] [] (124, I, J, R) (some (.int 1)) (124, I', J', R) ∧ xEv L xs (d' + 2) 216 0 [.ref 86, .int a, .int b, .int t, .int u, .int z] [] (124, Ir, Jr, Rr) (some (.int 1)) (124, Ir, Jr, Rr) ∧ xEv L xs (d' + 2) 217 0 [.ref 86, .int a, .int b, .int t, .int u, .int z, xmk, xmk, xmk, xmk, xmk, xmk, xmk] [] (124, Ir, Jr, Rr) none (124, Ir', Jr', Rr) ∧ (∀ c k, ¬ (c = 53 ∧ k = 1) → I' c k = I c k) ∧ (∀ c k, ¬ (c = 86 ∧ k = 40) → Ir' c k = Ir c k) ∧ (I' 53 1).toInt = un ∧ 1 ≤ un ∧ un ≤ 9 ∧ (Ir' 86 40).toInt = n ∧ n ≤ 128 ∧ n ≤ 16 * (un - 1) ∧ 1 ≤ np ∧ cG J' un ∧ rG Jr' ∧ ∀ p, p < np → cV J' un p = rV Jr' p * tn (16 * (un - 1) - n) ∧ rV Jr' p ≤ tn n) := by
  have hV0 := hV
  obtain ⟨⟨p1, p2, p3⟩, p4, p5, p6, ⟨q1, q2⟩, ⟨q3, q4⟩, ⟨q5, q6⟩, q7, q8, q9, ⟨q10, q11⟩, q12, -⟩ := hV
  have qx := qx_run (L := L) (xs := xs) (d := d') (I := Ir) (J := Jr) hGr q2 q6 q11 a b t u z
  rcases hn_run_3 (L := L) (xs := xs) (d := d + 3) (I := I) (J := J) hG q5 a with ⟨ha, xa⟩ | ⟨ha, xa⟩
  rotate_left
  · rcases qx with ⟨g, -⟩ | ⟨-, y⟩
    · exact absurd g.1 ha
    · exact Or.inl ⟨qv2_n_3 hG h8 xa, y⟩
  rcases hp_run_3 (L := L) (xs := xs) (d := d + 3) (I := I) (J := J) hG q1 b with ⟨hb, xb⟩ | ⟨hb, xb⟩
  rotate_left
  · rcases qx with ⟨g, -⟩ | ⟨-, y⟩
    · exact absurd g.2.1 hb
    · exact Or.inl ⟨qv2_p_3 hG h8 xa xb, y⟩
  by_cases t0 : t.toInt < 0
  · rcases qx with ⟨g, -⟩ | ⟨-, y⟩
    · exact absurd g.2.2.1 (by omega)
    · exact Or.inl ⟨qv2_t_3 hG h8 xa xb t0, y⟩
  by_cases tz : z.toInt < t.toInt
  · rcases qx with ⟨g, -⟩ | ⟨-, y⟩
    · exact absurd g.2.2.2.2.1 (by omega)
    · exact Or.inl ⟨qv2_z_3 hG h8 xa xb (by omega) tz, y⟩
  by_cases zs : z.toInt > (I 17 5).toInt
  · rcases qx with ⟨g, -⟩ | ⟨-, y⟩
    · exact absurd g.2.2.2.2.2 (by omega)
    · exact Or.inl ⟨qv2_s_3 hG h8 xa xb (by omega) (by omega) zs, y⟩
  by_cases u0 : u.toInt < 0
  · rcases qx with ⟨g, -⟩ | ⟨-, y⟩
    · exact absurd g.2.2.2.1.1 (by omega)
    · exact Or.inl ⟨qv2_u_3 hG h8 xa xb (by omega) (by omega) (by omega) u0, y⟩
  by_cases u10 : u.toInt > 10
  · rcases qx with ⟨g, -⟩ | ⟨-, y⟩
    · exact absurd g.2.2.2.1.2 (by omega)
    · exact Or.inl ⟨qv2_w_3 hG h8 xa xb (by omega) (by omega) (by omega) (by omega) u10, y⟩
  have y1 : xEv L xs (d' + 2) 216 0 [.ref 86, .int a, .int b, .int t, .int u, .int z] [] (124, Ir, Jr, Rr) (some (.int 1)) (124, Ir, Jr, Rr) := by
    rcases qx with ⟨-, y⟩ | ⟨g, -⟩
    · exact y
    · exact absurd ⟨ha, hb, by omega, ⟨by omega, by omega⟩, by omega, by omega⟩ g
  obtain ⟨aN, eaN⟩ := Int.eq_ofNat_of_zero_le ha.1
  obtain ⟨bN, ebN⟩ := Int.eq_ofNat_of_zero_le hb.1
  obtain ⟨tN, etN⟩ := Int.eq_ofNat_of_zero_le (show 0 ≤ t.toInt by omega)
  obtain ⟨zN, ezN⟩ := Int.eq_ofNat_of_zero_le (show 0 ≤ z.toInt by omega)
  have eca := clamp_s (i := a) ha.1
  have eka : a.toNatClampNeg = aN := by omega
  have xbar := at_run (L := L) (xs := xs) (d := d + 3) (h := (124, I, J, R)) (c := 15) (n := 4) (fun _ => rfl) (by decide) a
  rw [if_pos ⟨by omega, by omega⟩, eka] at xbar
  have ebar : I 15 aN = Ir 100 aN := (q9 aN (by omega)).2.2.2.2.1
  have xbar' : xEv L xs (d + 3) 39 0 [.ref 15, .int a] [] (124, I, J, R) (some (.int (Ir 100 a.toNatClampNeg))) (124, I, J, R) := by
    rw [eka, ← ebar]
    exact xbar
  have e2 : (2 : Int32).toInt = 2 := by decide
  have ezt : (z - t).toInt = z.toInt - t.toInt := i_sub (by omega) (by omega)
  have edg : (2 * (z - t)).toInt = 2 * (z.toInt - t.toInt) := by rw [i_mul (by rw [e2]; omega) (by rw [e2]; omega), e2, ezt]
  obtain ⟨I1, J1, un, s1, s2, s3, s4, s5, s6, s7, s8, s9, s10⟩ := qs_run (L := L) (xs := xs) (d := d + 1) (I := I) (J := J) hG (q := b) (dg := 2 * (z - t)) ebN (by omega) (by omega) (by omega)
  obtain ⟨Jr1, z1, z2, z3⟩ := qqc_run (L := L) (xs := xs) (d := d' + 1) (I := Ir) (J := Jr) hGr
  obtain ⟨k1, k2, k3⟩ := ix160 ebN (by omega)
  have e0L : (0 : Int64).toInt = 0 := by decide
  have e1L : (1 : Int64).toInt = 1 := by decide
  have at0 : ∀ p i, p < 14 → i < 16 → ((uL Jr1 108 (16 * bN) 1) 108 (16 * p + i)).toInt = if p = bN ∧ i = 0 then 1 else 0 := fun p i hp hi => by
    by_cases g : p = bN ∧ i = 0
    · rw [if_pos g, g.1, g.2, Nat.add_zero, uL_s, e1L]
    · rw [if_neg g, uL_n _ _ (by omega), z3 _ (by omega), e0L]
  have gr : rG (uL Jr1 108 (16 * bN) 1) := fun p hp i hi => by
    rw [at0 p i hp hi]
    split <;> omega
  have rv0 : ∀ p, p < 7 → rV (uL Jr1 108 (16 * bN) 1) p = if p = bN then 1 else 0 := fun p hp => by
    have sp := sT_p (e := 9) (f := rF (uL Jr1 108 (16 * bN) 1) p) 1 15
    have zz := sT_z (e := 9) (f := fun i => rF (uL Jr1 108 (16 * bN) 1) p (1 + i)) 0 15 (fun i _ hi => by
      show ((uL Jr1 108 (16 * bN) 1) 108 (16 * p + (1 + i))).toInt = 0
      rw [at0 _ _ (by omega) (by omega), if_neg (by omega)])
    rw [Nat.zero_add] at zz
    have ez : sT 9 (fun i => rF (uL Jr1 108 (16 * bN) 1) p (1 + i)) 0 = 0 := sT_0 _ _
    have f0 : sT 9 (rF (uL Jr1 108 (16 * bN) 1) p) 1 = if p = bN then 1 else 0 := by
      rw [sT_1]
      show ((uL Jr1 108 (16 * bN) 1) 108 (16 * p + 0)).toInt = _
      rw [at0 _ _ (by omega) (by omega)]
      by_cases g : p = bN
      · rw [if_pos ⟨g, rfl⟩, if_pos g]
      · rw [if_neg (fun h => g h.1), if_neg g]
    show sT 9 (rF (uL Jr1 108 (16 * bN) 1) p) (1 + 15) = _
    rw [sp, zz, ez, Int.mul_zero, Int.add_zero, f0]
  have start : ∀ p, p < np → cV J1 un p = rV (uL Jr1 108 (16 * bN) 1) p * tn (16 * (un - 1) - 0) := fun p hp => by
    rw [rv0 p (by omega), Nat.sub_zero]
    by_cases g : p = bN
    · rw [if_pos g, g, s9, Int.one_mul]
    · rw [if_neg g, s10 p (by omega) g, Int.zero_mul]
  have sum1 : ∀ n, n ≤ 7 → sT 0 (rV (uL Jr1 108 (16 * bN) 1)) n = if bN < n then 1 else 0 := by
    intro n
    induction n with
    | zero => intro _; rw [if_neg (by omega), sT_0]
    | succ n ih =>
      intro hn
      rw [s0_s, ih (by omega), rv0 n (by omega)]
      by_cases e : n = bN
      · rw [if_neg (by omega), if_pos e, if_pos (by omega)]
        rfl
      · rw [if_neg e, Int.add_zero]
        by_cases g : bN < n
        · rw [if_pos g, if_pos (by omega)]
        · rw [if_neg g, if_neg (by omega)]
  have sumT : sT 0 (rV (uL Jr1 108 (16 * bN) 1)) np = tn 0 := by rw [sum1 np p1, if_pos (by omega), tn_0]
  obtain ⟨Ir', J', Jr', v1, v2, v3, v4, v5, v6, v7, v8⟩ := qlw_3 (L := L) (xs := xs) (d := d + 1) (d' := d' + 1) hG hGr hV0 s2 hch (fr := b) (tm := t) (u := u) (z := z) (nw := a) (zN := zN) s4 s5 s6 ezN (by omega) (by omega) (by omega) ha.1 ha.2 (zN - tN) 0 tN t xmk xmk xmk xmk xmk xmk xmk xmk xmk (uI Ir 86 40 0) J1 (uL Jr1 108 (16 * bN) 1) (by omega) etN (by omega) (by omega) (fun c k hc => uI_n _ _ hc) (by rw [uI_s]; decide) s8 gr start sumT
  rw [Nat.zero_add] at v4 v8
  have runC := qw_s_3 hG s1 v1
  have runR : xEv L xs (d' + 2) 217 0 [.ref 86, .int a, .int b, .int t, .int u, .int z, xmk, xmk, xmk, xmk, xmk, xmk, xmk] [] (124, Ir, Jr, Rr) none (124, Ir', Jr', Rr) := qqw_s hGr z1 k1 k2 (by rw [k3]; exact v2)
  exact Or.inr ⟨I1, Ir', J', Jr', un, 2 * (zN - tN), qv2_y_3 hG h8 xa xb (by omega) (by omega) (by omega) (by omega) (by omega) xbar' runC, y1, runR, s2, v3, s4, s5, s6, v4, by omega, by omega, by omega, v6, v7, v8⟩
theorem whs_3 {L : Nat} {xs : Nat → Int32} {d d' : Nat} {I Ir : Nat → Nat → Int32} {J Jr : Nat → Nat → Int64} {R Rr : Nat → Nat → Nat} (hG : aGd R) (hGr : aGd Rr) (h8 : R 0 8 = 4) {np nm nn : Nat} {l : List (Nat × Nat)} (hV : VR_3 np nm nn l I Ir) (hch : ∀ q, q < 16 → 0 ≤ (Ir 95 q).toInt ∧ (Ir 95 q).toInt ≤ 10) (a b t u z w : Int32) : ∃ (r : Int32) (I' Ir' : Nat → Nat → Int32) (J' Jr' : Nat → Nat → Int64), xEv L xs (d + 5) 111 0 [.ref 0, .int a, .int b, .int t, .int u, .int z, .int w] [] (124, I, J, R) (some (.int r)) (124, I', J', R) ∧ xEv L xs (d' + 3) 215 0 [.ref 86, .int a, .int b, .int t, .int u, .int z, .int w] [] (124, Ir, Jr, Rr) (some (.int r)) (124, Ir', Jr', Rr) := by
  have hV0 := hV
  obtain ⟨⟨p1, p2, p3⟩, p4, p5, p6, ⟨q1, q2⟩, -⟩ := hV
  have sp := spr_3 (L := L) (xs := xs) (d := d) (d' := d') (J := J) (Jr := Jr) hG hGr h8 hV0 hch a b t u z
  have ip := ip_run (L := L) (xs := xs) (d := d' + 1) (I := Ir) (J := Jr) hGr q2 w
  rcases hp_run_3 (L := L) (xs := xs) (d := d + 4) (I := I) (J := J) hG q1 w with ⟨hw, xw⟩ | ⟨hw, xw⟩
  rotate_left
  · have yw : xEv L xs (d' + 2) 167 0 [.ref 86, .int w] [] (124, Ir, Jr, Rr) (some (.int 0)) (124, Ir, Jr, Rr) := by
      rcases ip with ⟨g, -⟩ | ⟨-, y⟩
      · exact absurd g hw
      · exact y
    rcases sp with ⟨-, y⟩ | ⟨I', Ir', J', Jr', un, n, -, y, -⟩
    · exact ⟨-2, _, _, _, _, qv3_p_3 hG h8 xw, qxw_0 hGr y⟩
    · exact ⟨-2, _, _, _, _, qv3_p_3 hG h8 xw, qxw_1 hGr y yw⟩
  have yw : xEv L xs (d' + 2) 167 0 [.ref 86, .int w] [] (124, Ir, Jr, Rr) (some (.int 1)) (124, Ir, Jr, Rr) := by
    rcases ip with ⟨-, y⟩ | ⟨g, -⟩
    · exact y
    · exact absurd hw g
  rcases sp with ⟨x, y⟩ | ⟨I', Ir', J', Jr', un, n, x, y, yr, f1, f2, s4, s5, s6, v4, n1, n2, n3, v6, v7, v8⟩
  · exact ⟨-2, _, _, _, _, qv3_s_3 hG h8 xw x, qxw_0 hGr y⟩
  obtain ⟨wN, ewN⟩ := Int.eq_ofNat_of_zero_le hw.1
  obtain ⟨w1', w2'⟩ := v8 wN (by omega)
  have eE : tn (16 * (un - 1)) = tn n * tn (16 * (un - 1) - n) := by rw [← tn_add]; congr 1; omega
  have tp := tn_pos (16 * (un - 1) - n)
  have cle : cV J' un wN ≤ tn (16 * (un - 1)) := by rw [w1', eE]; exact Int.mul_le_mul_of_nonneg_right w2' (Int.le_of_lt tp)
  obtain ⟨r1, o1, o2⟩ := qi_run (L := L) (xs := xs) (d := d + 4) (I := I') hG s5 s6 ewN (by omega) v6 cle
  obtain ⟨r2, Jr2, o3, o4, o5⟩ := qqi_run (L := L) (xs := xs) (d := d' + 1) hGr ewN (by omega) v4 n1 v7 w2'
  have er : r2 = r1 := Int32.toInt_inj.mp (by
    rw [o2, o5, w1', eE, Int.mul_assoc, Int.mul_comm (tn (16 * (un - 1) - n)) 1000000, ← Int.mul_assoc, Int.mul_ediv_mul_of_pos_left _ _ tp])
  subst er
  exact ⟨r2, _, _, _, _, qv3_y_3 hG h8 xw x o1, qxw_2 hGr y yw yr o3⟩
theorem aks_3 {L : Nat} {xs : Nat → Int32} {d d' : Nat} {I Ir : Nat → Nat → Int32} {J Jr : Nat → Nat → Int64} {R Rr : Nat → Nat → Nat} (hG : aGd R) (hGr : aGd Rr) (h8 : R 0 8 = 4) {np nm nn : Nat} {l : List (Nat × Nat)} (hV : VR_3 np nm nn l I Ir) (hch : ∀ q, q < 16 → 0 ≤ (Ir 95 q).toInt ∧ (Ir 95 q).toInt ≤ 10) (a b t u z : Int32) : ∃ (r : Int32) (I' Ir' : Nat → Nat → Int32) (J' Jr' : Nat → Nat → Int64), xEv L xs (d + 5) 114 0 [.ref 0, .int a, .int b, .int t, .int u, .int z, xmk, xmk] [] (124, I, J, R) (some (.int r)) (124, I', J', R) ∧ xEv L xs (d' + 3) 218 0 [.ref 86, .int a, .int b, .int t, .int u, .int z, xmk, xmk] [] (124, Ir, Jr, Rr) (some (.int r)) (124, Ir', Jr', Rr) := by
  have hV0 := hV
  obtain ⟨⟨p1, p2, p3⟩, p4, p5, p6, ⟨q1, q2⟩, -⟩ := hV
  rcases spr_3 (L := L) (xs := xs) (d := d) (d' := d') (J := J) (Jr := Jr) hG hGr h8 hV0 hch a b t u z with ⟨x, y⟩ | ⟨I', Ir', J', Jr', un, n, x, y, yr, f1, f2, s4, s5, s6, v4, n1, n2, n3, v6, v7, v8⟩
  · exact ⟨-2, _, _, _, _, qv4_n_3 hG x, qxa_0 hGr y⟩
  have np1 : (I' 3 14).toInt = np := by rw [f1 _ _ (by omega)]; exact q1
  have np2 : (Ir' 88 0).toInt = np := by rw [f2 _ _ (by omega)]; exact q2
  have tp := tn_pos (16 * (un - 1) - n)
  have lp : ∀ (f k mN : Nat) (m q : Int32), k + f = np → q.toInt = k → m.toInt = mN → mN < np → ∃ r : Int32, xEv L xs (d + 5) 114 23 [.ref 0, .int a, .int b, .int t, .int u, .int z, .int m, .int q] [] (124, I', J', R) (some (.int r)) (124, I', J', R) ∧ xEv L xs (d' + 3) 218 34 [.ref 86, .int a, .int b, .int t, .int u, .int z, .int m, .int q] [] (124, Ir', Jr', Rr) (some (.int r)) (124, Ir', Jr', Rr) := by
    intro f
    induction f with
    | zero =>
      intro k mN m q hk eq em hm
      exact ⟨m, qv4_e_3 hG h8 (by omega), qxa_e hGr (by omega)⟩
    | succ f ih =>
      intro k mN m q hk eq em hm
      have eq' : (q + 1).toInt = (k + 1 : Nat) := by rw [i_add1 (by omega)]; omega
      obtain ⟨o, x1, x2⟩ := qc_run (L := L) (xs := xs) (d := d + 3) (I := I') (J := J') hG s4 s5 s6 eq em (by omega) (by omega) (v6.1 k (by omega)) (v6.1 mN (by omega))
      obtain ⟨o', y1, y2⟩ := qqk_run (L := L) (xs := xs) (d := d' + 2) (I := Ir') (J := Jr') hGr eq em (by omega) (by omega) (v7 k (by omega)) (v7 mN (by omega))
      have lt : cV J' un mN < cV J' un k ↔ rV Jr' mN < rV Jr' k := by
        rw [(v8 mN hm).1, (v8 k (by omega)).1]
        exact ⟨fun h => Int.lt_of_mul_lt_mul_right h (Int.le_of_lt tp), fun h => Int.mul_lt_mul_of_pos_right h tp⟩
      by_cases g : rV Jr' mN < rV Jr' k
      · have g' := lt.mpr g
        obtain ⟨r, z1, z2⟩ := ih (k + 1) k q (q + 1) (by omega) eq' eq (by omega)
        exact ⟨r, qv4_y_3 hG h8 (by omega) x1 (by omega) z1, qxa_y hGr (by omega) y1 (by omega) z2⟩
      · have g' := mt lt.mp g
        obtain ⟨r, z1, z2⟩ := ih (k + 1) mN m (q + 1) (by omega) eq' em hm
        exact ⟨r, qv4_k_3 hG h8 (by omega) x1 (by omega) z1, qxa_n hGr (by omega) y1 (by omega) z2⟩
  obtain ⟨r, z1, z2⟩ := lp (np - 1) 1 0 0 1 (by omega) (by decide) (by decide) (by omega)
  exact ⟨r, _, _, _, _, qv4_s_3 hG x z1, qxa_s hGr y yr z2⟩
set_option maxRecDepth 20000 in
theorem qw_s_23 {L : Nat} {xs : Nat → Int32} {d : Nat} {I : Nat → Nat → Int32} {J : Nat → Nat → Int64} {R : Nat → Nat → Nat} {I1 : Nat → Nat → Int32} {J1 : Nat → Nat → Int64} {bar fr tm u z : Int32} (hG : aGd R) (c1 : xEv L xs d 70 0 [.ref 53, .int fr, .int (2 * (z - tm))] [] (124, I, J, R) none (124, I1, J1, R)) {v : Option Value} {h' : xH} (hk : xEv L xs (d + 1) 113 16 [.ref 53, .ref 37, .int bar, .int fr, .int tm, .int u, .int z, .int tm, xmk, xmk, xmk] [] (124, I1, J1, R) v h') : xEv L xs (d + 1) 113 0 [.ref 53, .ref 37, .int bar, .int fr, .int tm, .int u, .int z, xmk, xmk, xmk, xmk] [] (124, I, J, R) v h' := by
  refine ev_go 7 (pc1 := 9) (lv1 := [.ref 53, .ref 37, .int bar, .int fr, .int tm, .int u, .int z, xmk, xmk, xmk, xmk]) (st1 := [.int (2 * (z - tm)), .int fr, .ref 53]) (h1 := (124, I, J, R)) rfl ?_
  refine ev_call (v1 := none) (h1 := (124, I1, J1, R)) rfl rfl c1 ?_
  refine ev_go 2 (pc1 := 16) (lv1 := [.ref 53, .ref 37, .int bar, .int fr, .int tm, .int u, .int z, .int tm, xmk, xmk, xmk]) (st1 := []) (h1 := (124, I1, J1, R)) rfl ?_
  exact hk
set_option maxRecDepth 20000 in
theorem qw_e_23 {L : Nat} {xs : Nat → Int32} {d : Nat} {I : Nat → Nat → Int32} {J : Nat → Nat → Int64} {R : Nat → Nat → Nat} {bar fr tm u z i : Int32} {w8 w9 wa : Value} (hG : aGd R) (b1 : i.toInt ≥ z.toInt) : xEv L xs d 113 16 [.ref 53, .ref 37, .int bar, .int fr, .int tm, .int u, .int z, .int i, w8, w9, wa] [] (124, I, J, R) none (124, I, J, R) := by
  refine ev_go 2 (pc1 := 20) (lv1 := [.ref 53, .ref 37, .int bar, .int fr, .int tm, .int u, .int z, .int i, w8, w9, wa]) (st1 := [.int z, .int i]) (h1 := (124, I, J, R)) rfl ?_
  refine ev_br (b1 := true) rfl rfl (xcd_ge (x := i) (y := z) (by first | exact b1 | omega)) ?_
  exact ev_ret rfl rfl
set_option maxRecDepth 20000 in
theorem qw_00_23 {L : Nat} {xs : Nat → Int32} {d : Nat} {I : Nat → Nat → Int32} {J : Nat → Nat → Int64} {R : Nat → Nat → Nat} {J1 : Nat → Nat → Int64} {J2 : Nat → Nat → Int64} {J3 : Nat → Nat → Int64} {J4 : Nat → Nat → Int64} {J5 : Nat → Nat → Int64} {J6 : Nat → Nat → Int64} {J7 : Nat → Nat → Int64} {J8 : Nat → Nat → Int64} {bar fr tm u z i a b c : Int32} {w8 w9 wa : Value} (hG : aGd R) (b1 : i.toInt < z.toInt) (c1 : xEv L xs d 39 0 [.ref 40, .int i] [] (124, I, J, R) (some (.int a)) (124, I, J, R)) (c2 : xEv L xs d 39 0 [.ref 41, .int i] [] (124, I, J, R) (some (.int b)) (124, I, J, R)) (c3 : xEv L xs d 39 0 [.ref 42, .int i] [] (124, I, J, R) (some (.int c)) (124, I, J, R)) (c4 : xEv L xs d 75 0 [.ref 53, .int a, .int 7] [] (124, I, J, R) none (124, I, J1, R)) (b2 : ((bar >>> (b &&& 31)) &&& 1).toInt = 0) (c5 : xEv L xs d 77 0 [.ref 53, .int 7, .int (c * u), .int 100, xmk, xmk, xmk, xmk, xmk, xmk, xmk] [] (124, I, J1, R) none (124, I, J2, R)) (c6 : xEv L xs d 75 0 [.ref 53, .int b, .int 8] [] (124, I, J2, R) none (124, I, J3, R)) (b3 : ((bar >>> (a &&& 31)) &&& 1).toInt = 0) (c7 : xEv L xs d 77 0 [.ref 53, .int 8, .int (c * u), .int 100, xmk, xmk, xmk, xmk, xmk, xmk, xmk] [] (124, I, J3, R) none (124, I, J4, R)) (c8 : xEv L xs d 76 0 [.ref 53, .int 7, .int a, xmk, xmk, xmk, xmk, xmk] [] (124, I, J4, R) none (124, I, J5, R)) (c9 : xEv L xs d 78 0 [.ref 53, .int 8, .int a, xmk, xmk, xmk, xmk, xmk] [] (124, I, J5, R) none (124, I, J6, R)) (c10 : xEv L xs d 76 0 [.ref 53, .int 8, .int b, xmk, xmk, xmk, xmk, xmk] [] (124, I, J6, R) none (124, I, J7, R)) (c11 : xEv L xs d 78 0 [.ref 53, .int 7, .int b, xmk, xmk, xmk, xmk, xmk] [] (124, I, J7, R) none (124, I, J8, R)) {v : Option Value} {h' : xH} (hk : xEv L xs (d + 1) 113 16 [.ref 53, .ref 37, .int bar, .int fr, .int tm, .int u, .int z, .int (i + 1), .int a, .int b, .int (c * u)] [] (124, I, J8, R) v h') : xEv L xs (d + 1) 113 16 [.ref 53, .ref 37, .int bar, .int fr, .int tm, .int u, .int z, .int i, w8, w9, wa] [] (124, I, J, R) v h' := by
  refine ev_go 2 (pc1 := 20) (lv1 := [.ref 53, .ref 37, .int bar, .int fr, .int tm, .int u, .int z, .int i, w8, w9, wa]) (st1 := [.int z, .int i]) (h1 := (124, I, J, R)) rfl ?_
  refine ev_br (b1 := false) rfl rfl (xcd_nge (x := i) (y := z) (by first | exact b1 | omega)) ?_
  refine ev_go 1 (pc1 := 24) (lv1 := [.ref 53, .ref 37, .int bar, .int fr, .int tm, .int u, .int z, .int i, w8, w9, wa]) (st1 := [.ref 37]) (h1 := (124, I, J, R)) rfl ?_
  refine ev_gf (c := 37) (t := 40) (X := R 37 2) rfl rfl (fun _ => rfl) rfl (hG 37 2 40 rfl rfl) ?_
  refine ev_go 1 (pc1 := 29) (lv1 := [.ref 53, .ref 37, .int bar, .int fr, .int tm, .int u, .int z, .int i, w8, w9, wa]) (st1 := [.int i, .ref 40]) (h1 := (124, I, J, R)) rfl ?_
  refine ev_call (v1 := (some (.int a))) (h1 := (124, I, J, R)) rfl rfl c1 ?_
  refine ev_go 2 (pc1 := 35) (lv1 := [.ref 53, .ref 37, .int bar, .int fr, .int tm, .int u, .int z, .int i, .int a, w9, wa]) (st1 := [.ref 37]) (h1 := (124, I, J, R)) rfl ?_
  refine ev_gf (c := 37) (t := 41) (X := R 37 3) rfl rfl (fun _ => rfl) rfl (hG 37 3 41 rfl rfl) ?_
  refine ev_go 1 (pc1 := 40) (lv1 := [.ref 53, .ref 37, .int bar, .int fr, .int tm, .int u, .int z, .int i, .int a, w9, wa]) (st1 := [.int i, .ref 41]) (h1 := (124, I, J, R)) rfl ?_
  refine ev_call (v1 := (some (.int b))) (h1 := (124, I, J, R)) rfl rfl c2 ?_
  refine ev_go 2 (pc1 := 46) (lv1 := [.ref 53, .ref 37, .int bar, .int fr, .int tm, .int u, .int z, .int i, .int a, .int b, wa]) (st1 := [.ref 37]) (h1 := (124, I, J, R)) rfl ?_
  refine ev_gf (c := 37) (t := 42) (X := R 37 4) rfl rfl (fun _ => rfl) rfl (hG 37 4 42 rfl rfl) ?_
  refine ev_go 1 (pc1 := 51) (lv1 := [.ref 53, .ref 37, .int bar, .int fr, .int tm, .int u, .int z, .int i, .int a, .int b, wa]) (st1 := [.int i, .ref 42]) (h1 := (124, I, J, R)) rfl ?_
  refine ev_call (v1 := (some (.int c))) (h1 := (124, I, J, R)) rfl rfl c3 ?_
  refine ev_go 6 (pc1 := 64) (lv1 := [.ref 53, .ref 37, .int bar, .int fr, .int tm, .int u, .int z, .int i, .int a, .int b, .int (c * u)]) (st1 := [.int 7, .int a, .ref 53]) (h1 := (124, I, J, R)) rfl ?_
  refine ev_call (v1 := none) (h1 := (124, I, J1, R)) rfl rfl c4 ?_
  refine ev_go 4 (pc1 := 73) (lv1 := [.ref 53, .ref 37, .int bar, .int fr, .int tm, .int u, .int z, .int i, .int a, .int b, .int (c * u)]) (st1 := [.int b, .int bar, .int 7, .ref 53]) (h1 := (124, I, J1, R)) rfl ?_
  refine ev_go 3 (pc1 := 76) (lv1 := [.ref 53, .ref 37, .int bar, .int fr, .int tm, .int u, .int z, .int i, .int a, .int b, .int (c * u)]) (st1 := [.int ((bar >>> (b &&& 31)) &&& 1), .int 7, .ref 53]) (h1 := (124, I, J1, R)) rfl ?_
  refine ev_br (b1 := false) rfl rfl (xcd_nne (x := ((bar >>> (b &&& 31)) &&& 1)) (y := 0) (by rw [show ((0 : Int32)).toInt = 0 from by decide]; first | exact b2 | omega)) ?_
  refine ev_go 3 (pc1 := 87) (lv1 := [.ref 53, .ref 37, .int bar, .int fr, .int tm, .int u, .int z, .int i, .int a, .int b, .int (c * u)]) (st1 := [.int 100, .int (c * u), .int 7, .ref 53]) (h1 := (124, I, J1, R)) rfl ?_
  refine ev_call (v1 := none) (h1 := (124, I, J2, R)) rfl rfl c5 ?_
  refine ev_go 3 (pc1 := 95) (lv1 := [.ref 53, .ref 37, .int bar, .int fr, .int tm, .int u, .int z, .int i, .int a, .int b, .int (c * u)]) (st1 := [.int 8, .int b, .ref 53]) (h1 := (124, I, J2, R)) rfl ?_
  refine ev_call (v1 := none) (h1 := (124, I, J3, R)) rfl rfl c6 ?_
  refine ev_go 4 (pc1 := 104) (lv1 := [.ref 53, .ref 37, .int bar, .int fr, .int tm, .int u, .int z, .int i, .int a, .int b, .int (c * u)]) (st1 := [.int a, .int bar, .int 8, .ref 53]) (h1 := (124, I, J3, R)) rfl ?_
  refine ev_go 3 (pc1 := 107) (lv1 := [.ref 53, .ref 37, .int bar, .int fr, .int tm, .int u, .int z, .int i, .int a, .int b, .int (c * u)]) (st1 := [.int ((bar >>> (a &&& 31)) &&& 1), .int 8, .ref 53]) (h1 := (124, I, J3, R)) rfl ?_
  refine ev_br (b1 := false) rfl rfl (xcd_nne (x := ((bar >>> (a &&& 31)) &&& 1)) (y := 0) (by rw [show ((0 : Int32)).toInt = 0 from by decide]; first | exact b3 | omega)) ?_
  refine ev_go 3 (pc1 := 118) (lv1 := [.ref 53, .ref 37, .int bar, .int fr, .int tm, .int u, .int z, .int i, .int a, .int b, .int (c * u)]) (st1 := [.int 100, .int (c * u), .int 8, .ref 53]) (h1 := (124, I, J3, R)) rfl ?_
  refine ev_call (v1 := none) (h1 := (124, I, J4, R)) rfl rfl c7 ?_
  refine ev_go 3 (pc1 := 126) (lv1 := [.ref 53, .ref 37, .int bar, .int fr, .int tm, .int u, .int z, .int i, .int a, .int b, .int (c * u)]) (st1 := [.int a, .int 7, .ref 53]) (h1 := (124, I, J4, R)) rfl ?_
  refine ev_call (v1 := none) (h1 := (124, I, J5, R)) rfl rfl c8 ?_
  refine ev_go 3 (pc1 := 134) (lv1 := [.ref 53, .ref 37, .int bar, .int fr, .int tm, .int u, .int z, .int i, .int a, .int b, .int (c * u)]) (st1 := [.int a, .int 8, .ref 53]) (h1 := (124, I, J5, R)) rfl ?_
  refine ev_call (v1 := none) (h1 := (124, I, J6, R)) rfl rfl c9 ?_
  refine ev_go 3 (pc1 := 142) (lv1 := [.ref 53, .ref 37, .int bar, .int fr, .int tm, .int u, .int z, .int i, .int a, .int b, .int (c * u)]) (st1 := [.int b, .int 8, .ref 53]) (h1 := (124, I, J6, R)) rfl ?_
  refine ev_call (v1 := none) (h1 := (124, I, J7, R)) rfl rfl c10 ?_
  refine ev_go 3 (pc1 := 150) (lv1 := [.ref 53, .ref 37, .int bar, .int fr, .int tm, .int u, .int z, .int i, .int a, .int b, .int (c * u)]) (st1 := [.int b, .int 7, .ref 53]) (h1 := (124, I, J7, R)) rfl ?_
  refine ev_call (v1 := none) (h1 := (124, I, J8, R)) rfl rfl c11 ?_
  refine ev_go 2 (pc1 := 16) (lv1 := [.ref 53, .ref 37, .int bar, .int fr, .int tm, .int u, .int z, .int (i + 1), .int a, .int b, .int (c * u)]) (st1 := []) (h1 := (124, I, J8, R)) rfl ?_
  exact hk
set_option maxRecDepth 20000 in
theorem qw_01_23 {L : Nat} {xs : Nat → Int32} {d : Nat} {I : Nat → Nat → Int32} {J : Nat → Nat → Int64} {R : Nat → Nat → Nat} {J1 : Nat → Nat → Int64} {J2 : Nat → Nat → Int64} {J3 : Nat → Nat → Int64} {J4 : Nat → Nat → Int64} {J5 : Nat → Nat → Int64} {J6 : Nat → Nat → Int64} {J7 : Nat → Nat → Int64} {J8 : Nat → Nat → Int64} {bar fr tm u z i a b c : Int32} {w8 w9 wa : Value} (hG : aGd R) (b1 : i.toInt < z.toInt) (c1 : xEv L xs d 39 0 [.ref 40, .int i] [] (124, I, J, R) (some (.int a)) (124, I, J, R)) (c2 : xEv L xs d 39 0 [.ref 41, .int i] [] (124, I, J, R) (some (.int b)) (124, I, J, R)) (c3 : xEv L xs d 39 0 [.ref 42, .int i] [] (124, I, J, R) (some (.int c)) (124, I, J, R)) (c4 : xEv L xs d 75 0 [.ref 53, .int a, .int 7] [] (124, I, J, R) none (124, I, J1, R)) (b2 : ((bar >>> (b &&& 31)) &&& 1).toInt = 0) (c5 : xEv L xs d 77 0 [.ref 53, .int 7, .int (c * u), .int 100, xmk, xmk, xmk, xmk, xmk, xmk, xmk] [] (124, I, J1, R) none (124, I, J2, R)) (c6 : xEv L xs d 75 0 [.ref 53, .int b, .int 8] [] (124, I, J2, R) none (124, I, J3, R)) (b3 : ((bar >>> (a &&& 31)) &&& 1).toInt ≠ 0) (c7 : xEv L xs d 77 0 [.ref 53, .int 8, .int 0, .int 100, xmk, xmk, xmk, xmk, xmk, xmk, xmk] [] (124, I, J3, R) none (124, I, J4, R)) (c8 : xEv L xs d 76 0 [.ref 53, .int 7, .int a, xmk, xmk, xmk, xmk, xmk] [] (124, I, J4, R) none (124, I, J5, R)) (c9 : xEv L xs d 78 0 [.ref 53, .int 8, .int a, xmk, xmk, xmk, xmk, xmk] [] (124, I, J5, R) none (124, I, J6, R)) (c10 : xEv L xs d 76 0 [.ref 53, .int 8, .int b, xmk, xmk, xmk, xmk, xmk] [] (124, I, J6, R) none (124, I, J7, R)) (c11 : xEv L xs d 78 0 [.ref 53, .int 7, .int b, xmk, xmk, xmk, xmk, xmk] [] (124, I, J7, R) none (124, I, J8, R)) {v : Option Value} {h' : xH} (hk : xEv L xs (d + 1) 113 16 [.ref 53, .ref 37, .int bar, .int fr, .int tm, .int u, .int z, .int (i + 1), .int a, .int b, .int (c * u)] [] (124, I, J8, R) v h') : xEv L xs (d + 1) 113 16 [.ref 53, .ref 37, .int bar, .int fr, .int tm, .int u, .int z, .int i, w8, w9, wa] [] (124, I, J, R) v h' := by
  refine ev_go 2 (pc1 := 20) (lv1 := [.ref 53, .ref 37, .int bar, .int fr, .int tm, .int u, .int z, .int i, w8, w9, wa]) (st1 := [.int z, .int i]) (h1 := (124, I, J, R)) rfl ?_
  refine ev_br (b1 := false) rfl rfl (xcd_nge (x := i) (y := z) (by first | exact b1 | omega)) ?_
  refine ev_go 1 (pc1 := 24) (lv1 := [.ref 53, .ref 37, .int bar, .int fr, .int tm, .int u, .int z, .int i, w8, w9, wa]) (st1 := [.ref 37]) (h1 := (124, I, J, R)) rfl ?_
  refine ev_gf (c := 37) (t := 40) (X := R 37 2) rfl rfl (fun _ => rfl) rfl (hG 37 2 40 rfl rfl) ?_
  refine ev_go 1 (pc1 := 29) (lv1 := [.ref 53, .ref 37, .int bar, .int fr, .int tm, .int u, .int z, .int i, w8, w9, wa]) (st1 := [.int i, .ref 40]) (h1 := (124, I, J, R)) rfl ?_
  refine ev_call (v1 := (some (.int a))) (h1 := (124, I, J, R)) rfl rfl c1 ?_
  refine ev_go 2 (pc1 := 35) (lv1 := [.ref 53, .ref 37, .int bar, .int fr, .int tm, .int u, .int z, .int i, .int a, w9, wa]) (st1 := [.ref 37]) (h1 := (124, I, J, R)) rfl ?_
  refine ev_gf (c := 37) (t := 41) (X := R 37 3) rfl rfl (fun _ => rfl) rfl (hG 37 3 41 rfl rfl) ?_
  refine ev_go 1 (pc1 := 40) (lv1 := [.ref 53, .ref 37, .int bar, .int fr, .int tm, .int u, .int z, .int i, .int a, w9, wa]) (st1 := [.int i, .ref 41]) (h1 := (124, I, J, R)) rfl ?_
  refine ev_call (v1 := (some (.int b))) (h1 := (124, I, J, R)) rfl rfl c2 ?_
  refine ev_go 2 (pc1 := 46) (lv1 := [.ref 53, .ref 37, .int bar, .int fr, .int tm, .int u, .int z, .int i, .int a, .int b, wa]) (st1 := [.ref 37]) (h1 := (124, I, J, R)) rfl ?_
  refine ev_gf (c := 37) (t := 42) (X := R 37 4) rfl rfl (fun _ => rfl) rfl (hG 37 4 42 rfl rfl) ?_
  refine ev_go 1 (pc1 := 51) (lv1 := [.ref 53, .ref 37, .int bar, .int fr, .int tm, .int u, .int z, .int i, .int a, .int b, wa]) (st1 := [.int i, .ref 42]) (h1 := (124, I, J, R)) rfl ?_
  refine ev_call (v1 := (some (.int c))) (h1 := (124, I, J, R)) rfl rfl c3 ?_
  refine ev_go 6 (pc1 := 64) (lv1 := [.ref 53, .ref 37, .int bar, .int fr, .int tm, .int u, .int z, .int i, .int a, .int b, .int (c * u)]) (st1 := [.int 7, .int a, .ref 53]) (h1 := (124, I, J, R)) rfl ?_
  refine ev_call (v1 := none) (h1 := (124, I, J1, R)) rfl rfl c4 ?_
  refine ev_go 4 (pc1 := 73) (lv1 := [.ref 53, .ref 37, .int bar, .int fr, .int tm, .int u, .int z, .int i, .int a, .int b, .int (c * u)]) (st1 := [.int b, .int bar, .int 7, .ref 53]) (h1 := (124, I, J1, R)) rfl ?_
  refine ev_go 3 (pc1 := 76) (lv1 := [.ref 53, .ref 37, .int bar, .int fr, .int tm, .int u, .int z, .int i, .int a, .int b, .int (c * u)]) (st1 := [.int ((bar >>> (b &&& 31)) &&& 1), .int 7, .ref 53]) (h1 := (124, I, J1, R)) rfl ?_
  refine ev_br (b1 := false) rfl rfl (xcd_nne (x := ((bar >>> (b &&& 31)) &&& 1)) (y := 0) (by rw [show ((0 : Int32)).toInt = 0 from by decide]; first | exact b2 | omega)) ?_
  refine ev_go 3 (pc1 := 87) (lv1 := [.ref 53, .ref 37, .int bar, .int fr, .int tm, .int u, .int z, .int i, .int a, .int b, .int (c * u)]) (st1 := [.int 100, .int (c * u), .int 7, .ref 53]) (h1 := (124, I, J1, R)) rfl ?_
  refine ev_call (v1 := none) (h1 := (124, I, J2, R)) rfl rfl c5 ?_
  refine ev_go 3 (pc1 := 95) (lv1 := [.ref 53, .ref 37, .int bar, .int fr, .int tm, .int u, .int z, .int i, .int a, .int b, .int (c * u)]) (st1 := [.int 8, .int b, .ref 53]) (h1 := (124, I, J2, R)) rfl ?_
  refine ev_call (v1 := none) (h1 := (124, I, J3, R)) rfl rfl c6 ?_
  refine ev_go 4 (pc1 := 104) (lv1 := [.ref 53, .ref 37, .int bar, .int fr, .int tm, .int u, .int z, .int i, .int a, .int b, .int (c * u)]) (st1 := [.int a, .int bar, .int 8, .ref 53]) (h1 := (124, I, J3, R)) rfl ?_
  refine ev_go 3 (pc1 := 107) (lv1 := [.ref 53, .ref 37, .int bar, .int fr, .int tm, .int u, .int z, .int i, .int a, .int b, .int (c * u)]) (st1 := [.int ((bar >>> (a &&& 31)) &&& 1), .int 8, .ref 53]) (h1 := (124, I, J3, R)) rfl ?_
  refine ev_br (b1 := true) rfl rfl (xcd_ne (x := ((bar >>> (a &&& 31)) &&& 1)) (y := 0) (by rw [show ((0 : Int32)).toInt = 0 from by decide]; first | exact b3 | omega)) ?_
  refine ev_go 2 (pc1 := 118) (lv1 := [.ref 53, .ref 37, .int bar, .int fr, .int tm, .int u, .int z, .int i, .int a, .int b, .int (c * u)]) (st1 := [.int 100, .int 0, .int 8, .ref 53]) (h1 := (124, I, J3, R)) rfl ?_
  refine ev_call (v1 := none) (h1 := (124, I, J4, R)) rfl rfl c7 ?_
  refine ev_go 3 (pc1 := 126) (lv1 := [.ref 53, .ref 37, .int bar, .int fr, .int tm, .int u, .int z, .int i, .int a, .int b, .int (c * u)]) (st1 := [.int a, .int 7, .ref 53]) (h1 := (124, I, J4, R)) rfl ?_
  refine ev_call (v1 := none) (h1 := (124, I, J5, R)) rfl rfl c8 ?_
  refine ev_go 3 (pc1 := 134) (lv1 := [.ref 53, .ref 37, .int bar, .int fr, .int tm, .int u, .int z, .int i, .int a, .int b, .int (c * u)]) (st1 := [.int a, .int 8, .ref 53]) (h1 := (124, I, J5, R)) rfl ?_
  refine ev_call (v1 := none) (h1 := (124, I, J6, R)) rfl rfl c9 ?_
  refine ev_go 3 (pc1 := 142) (lv1 := [.ref 53, .ref 37, .int bar, .int fr, .int tm, .int u, .int z, .int i, .int a, .int b, .int (c * u)]) (st1 := [.int b, .int 8, .ref 53]) (h1 := (124, I, J6, R)) rfl ?_
  refine ev_call (v1 := none) (h1 := (124, I, J7, R)) rfl rfl c10 ?_
  refine ev_go 3 (pc1 := 150) (lv1 := [.ref 53, .ref 37, .int bar, .int fr, .int tm, .int u, .int z, .int i, .int a, .int b, .int (c * u)]) (st1 := [.int b, .int 7, .ref 53]) (h1 := (124, I, J7, R)) rfl ?_
  refine ev_call (v1 := none) (h1 := (124, I, J8, R)) rfl rfl c11 ?_
  refine ev_go 2 (pc1 := 16) (lv1 := [.ref 53, .ref 37, .int bar, .int fr, .int tm, .int u, .int z, .int (i + 1), .int a, .int b, .int (c * u)]) (st1 := []) (h1 := (124, I, J8, R)) rfl ?_
  exact hk
set_option maxRecDepth 20000 in
theorem qw_10_23 {L : Nat} {xs : Nat → Int32} {d : Nat} {I : Nat → Nat → Int32} {J : Nat → Nat → Int64} {R : Nat → Nat → Nat} {J1 : Nat → Nat → Int64} {J2 : Nat → Nat → Int64} {J3 : Nat → Nat → Int64} {J4 : Nat → Nat → Int64} {J5 : Nat → Nat → Int64} {J6 : Nat → Nat → Int64} {J7 : Nat → Nat → Int64} {J8 : Nat → Nat → Int64} {bar fr tm u z i a b c : Int32} {w8 w9 wa : Value} (hG : aGd R) (b1 : i.toInt < z.toInt) (c1 : xEv L xs d 39 0 [.ref 40, .int i] [] (124, I, J, R) (some (.int a)) (124, I, J, R)) (c2 : xEv L xs d 39 0 [.ref 41, .int i] [] (124, I, J, R) (some (.int b)) (124, I, J, R)) (c3 : xEv L xs d 39 0 [.ref 42, .int i] [] (124, I, J, R) (some (.int c)) (124, I, J, R)) (c4 : xEv L xs d 75 0 [.ref 53, .int a, .int 7] [] (124, I, J, R) none (124, I, J1, R)) (b2 : ((bar >>> (b &&& 31)) &&& 1).toInt ≠ 0) (c5 : xEv L xs d 77 0 [.ref 53, .int 7, .int 0, .int 100, xmk, xmk, xmk, xmk, xmk, xmk, xmk] [] (124, I, J1, R) none (124, I, J2, R)) (c6 : xEv L xs d 75 0 [.ref 53, .int b, .int 8] [] (124, I, J2, R) none (124, I, J3, R)) (b3 : ((bar >>> (a &&& 31)) &&& 1).toInt = 0) (c7 : xEv L xs d 77 0 [.ref 53, .int 8, .int (c * u), .int 100, xmk, xmk, xmk, xmk, xmk, xmk, xmk] [] (124, I, J3, R) none (124, I, J4, R)) (c8 : xEv L xs d 76 0 [.ref 53, .int 7, .int a, xmk, xmk, xmk, xmk, xmk] [] (124, I, J4, R) none (124, I, J5, R)) (c9 : xEv L xs d 78 0 [.ref 53, .int 8, .int a, xmk, xmk, xmk, xmk, xmk] [] (124, I, J5, R) none (124, I, J6, R)) (c10 : xEv L xs d 76 0 [.ref 53, .int 8, .int b, xmk, xmk, xmk, xmk, xmk] [] (124, I, J6, R) none (124, I, J7, R)) (c11 : xEv L xs d 78 0 [.ref 53, .int 7, .int b, xmk, xmk, xmk, xmk, xmk] [] (124, I, J7, R) none (124, I, J8, R)) {v : Option Value} {h' : xH} (hk : xEv L xs (d + 1) 113 16 [.ref 53, .ref 37, .int bar, .int fr, .int tm, .int u, .int z, .int (i + 1), .int a, .int b, .int (c * u)] [] (124, I, J8, R) v h') : xEv L xs (d + 1) 113 16 [.ref 53, .ref 37, .int bar, .int fr, .int tm, .int u, .int z, .int i, w8, w9, wa] [] (124, I, J, R) v h' := by
  refine ev_go 2 (pc1 := 20) (lv1 := [.ref 53, .ref 37, .int bar, .int fr, .int tm, .int u, .int z, .int i, w8, w9, wa]) (st1 := [.int z, .int i]) (h1 := (124, I, J, R)) rfl ?_
  refine ev_br (b1 := false) rfl rfl (xcd_nge (x := i) (y := z) (by first | exact b1 | omega)) ?_
  refine ev_go 1 (pc1 := 24) (lv1 := [.ref 53, .ref 37, .int bar, .int fr, .int tm, .int u, .int z, .int i, w8, w9, wa]) (st1 := [.ref 37]) (h1 := (124, I, J, R)) rfl ?_
  refine ev_gf (c := 37) (t := 40) (X := R 37 2) rfl rfl (fun _ => rfl) rfl (hG 37 2 40 rfl rfl) ?_
  refine ev_go 1 (pc1 := 29) (lv1 := [.ref 53, .ref 37, .int bar, .int fr, .int tm, .int u, .int z, .int i, w8, w9, wa]) (st1 := [.int i, .ref 40]) (h1 := (124, I, J, R)) rfl ?_
  refine ev_call (v1 := (some (.int a))) (h1 := (124, I, J, R)) rfl rfl c1 ?_
  refine ev_go 2 (pc1 := 35) (lv1 := [.ref 53, .ref 37, .int bar, .int fr, .int tm, .int u, .int z, .int i, .int a, w9, wa]) (st1 := [.ref 37]) (h1 := (124, I, J, R)) rfl ?_
  refine ev_gf (c := 37) (t := 41) (X := R 37 3) rfl rfl (fun _ => rfl) rfl (hG 37 3 41 rfl rfl) ?_
  refine ev_go 1 (pc1 := 40) (lv1 := [.ref 53, .ref 37, .int bar, .int fr, .int tm, .int u, .int z, .int i, .int a, w9, wa]) (st1 := [.int i, .ref 41]) (h1 := (124, I, J, R)) rfl ?_
  refine ev_call (v1 := (some (.int b))) (h1 := (124, I, J, R)) rfl rfl c2 ?_
  refine ev_go 2 (pc1 := 46) (lv1 := [.ref 53, .ref 37, .int bar, .int fr, .int tm, .int u, .int z, .int i, .int a, .int b, wa]) (st1 := [.ref 37]) (h1 := (124, I, J, R)) rfl ?_
  refine ev_gf (c := 37) (t := 42) (X := R 37 4) rfl rfl (fun _ => rfl) rfl (hG 37 4 42 rfl rfl) ?_
  refine ev_go 1 (pc1 := 51) (lv1 := [.ref 53, .ref 37, .int bar, .int fr, .int tm, .int u, .int z, .int i, .int a, .int b, wa]) (st1 := [.int i, .ref 42]) (h1 := (124, I, J, R)) rfl ?_
  refine ev_call (v1 := (some (.int c))) (h1 := (124, I, J, R)) rfl rfl c3 ?_
  refine ev_go 6 (pc1 := 64) (lv1 := [.ref 53, .ref 37, .int bar, .int fr, .int tm, .int u, .int z, .int i, .int a, .int b, .int (c * u)]) (st1 := [.int 7, .int a, .ref 53]) (h1 := (124, I, J, R)) rfl ?_
  refine ev_call (v1 := none) (h1 := (124, I, J1, R)) rfl rfl c4 ?_
  refine ev_go 4 (pc1 := 73) (lv1 := [.ref 53, .ref 37, .int bar, .int fr, .int tm, .int u, .int z, .int i, .int a, .int b, .int (c * u)]) (st1 := [.int b, .int bar, .int 7, .ref 53]) (h1 := (124, I, J1, R)) rfl ?_
  refine ev_go 3 (pc1 := 76) (lv1 := [.ref 53, .ref 37, .int bar, .int fr, .int tm, .int u, .int z, .int i, .int a, .int b, .int (c * u)]) (st1 := [.int ((bar >>> (b &&& 31)) &&& 1), .int 7, .ref 53]) (h1 := (124, I, J1, R)) rfl ?_
  refine ev_br (b1 := true) rfl rfl (xcd_ne (x := ((bar >>> (b &&& 31)) &&& 1)) (y := 0) (by rw [show ((0 : Int32)).toInt = 0 from by decide]; first | exact b2 | omega)) ?_
  refine ev_go 2 (pc1 := 87) (lv1 := [.ref 53, .ref 37, .int bar, .int fr, .int tm, .int u, .int z, .int i, .int a, .int b, .int (c * u)]) (st1 := [.int 100, .int 0, .int 7, .ref 53]) (h1 := (124, I, J1, R)) rfl ?_
  refine ev_call (v1 := none) (h1 := (124, I, J2, R)) rfl rfl c5 ?_
  refine ev_go 3 (pc1 := 95) (lv1 := [.ref 53, .ref 37, .int bar, .int fr, .int tm, .int u, .int z, .int i, .int a, .int b, .int (c * u)]) (st1 := [.int 8, .int b, .ref 53]) (h1 := (124, I, J2, R)) rfl ?_
  refine ev_call (v1 := none) (h1 := (124, I, J3, R)) rfl rfl c6 ?_
  refine ev_go 4 (pc1 := 104) (lv1 := [.ref 53, .ref 37, .int bar, .int fr, .int tm, .int u, .int z, .int i, .int a, .int b, .int (c * u)]) (st1 := [.int a, .int bar, .int 8, .ref 53]) (h1 := (124, I, J3, R)) rfl ?_
  refine ev_go 3 (pc1 := 107) (lv1 := [.ref 53, .ref 37, .int bar, .int fr, .int tm, .int u, .int z, .int i, .int a, .int b, .int (c * u)]) (st1 := [.int ((bar >>> (a &&& 31)) &&& 1), .int 8, .ref 53]) (h1 := (124, I, J3, R)) rfl ?_
  refine ev_br (b1 := false) rfl rfl (xcd_nne (x := ((bar >>> (a &&& 31)) &&& 1)) (y := 0) (by rw [show ((0 : Int32)).toInt = 0 from by decide]; first | exact b3 | omega)) ?_
  refine ev_go 3 (pc1 := 118) (lv1 := [.ref 53, .ref 37, .int bar, .int fr, .int tm, .int u, .int z, .int i, .int a, .int b, .int (c * u)]) (st1 := [.int 100, .int (c * u), .int 8, .ref 53]) (h1 := (124, I, J3, R)) rfl ?_
  refine ev_call (v1 := none) (h1 := (124, I, J4, R)) rfl rfl c7 ?_
  refine ev_go 3 (pc1 := 126) (lv1 := [.ref 53, .ref 37, .int bar, .int fr, .int tm, .int u, .int z, .int i, .int a, .int b, .int (c * u)]) (st1 := [.int a, .int 7, .ref 53]) (h1 := (124, I, J4, R)) rfl ?_
  refine ev_call (v1 := none) (h1 := (124, I, J5, R)) rfl rfl c8 ?_
  refine ev_go 3 (pc1 := 134) (lv1 := [.ref 53, .ref 37, .int bar, .int fr, .int tm, .int u, .int z, .int i, .int a, .int b, .int (c * u)]) (st1 := [.int a, .int 8, .ref 53]) (h1 := (124, I, J5, R)) rfl ?_
  refine ev_call (v1 := none) (h1 := (124, I, J6, R)) rfl rfl c9 ?_
  refine ev_go 3 (pc1 := 142) (lv1 := [.ref 53, .ref 37, .int bar, .int fr, .int tm, .int u, .int z, .int i, .int a, .int b, .int (c * u)]) (st1 := [.int b, .int 8, .ref 53]) (h1 := (124, I, J6, R)) rfl ?_
  refine ev_call (v1 := none) (h1 := (124, I, J7, R)) rfl rfl c10 ?_
  refine ev_go 3 (pc1 := 150) (lv1 := [.ref 53, .ref 37, .int bar, .int fr, .int tm, .int u, .int z, .int i, .int a, .int b, .int (c * u)]) (st1 := [.int b, .int 7, .ref 53]) (h1 := (124, I, J7, R)) rfl ?_
  refine ev_call (v1 := none) (h1 := (124, I, J8, R)) rfl rfl c11 ?_
  refine ev_go 2 (pc1 := 16) (lv1 := [.ref 53, .ref 37, .int bar, .int fr, .int tm, .int u, .int z, .int (i + 1), .int a, .int b, .int (c * u)]) (st1 := []) (h1 := (124, I, J8, R)) rfl ?_
  exact hk
set_option maxRecDepth 20000 in
theorem qw_11_23 {L : Nat} {xs : Nat → Int32} {d : Nat} {I : Nat → Nat → Int32} {J : Nat → Nat → Int64} {R : Nat → Nat → Nat} {J1 : Nat → Nat → Int64} {J2 : Nat → Nat → Int64} {J3 : Nat → Nat → Int64} {J4 : Nat → Nat → Int64} {J5 : Nat → Nat → Int64} {J6 : Nat → Nat → Int64} {J7 : Nat → Nat → Int64} {J8 : Nat → Nat → Int64} {bar fr tm u z i a b c : Int32} {w8 w9 wa : Value} (hG : aGd R) (b1 : i.toInt < z.toInt) (c1 : xEv L xs d 39 0 [.ref 40, .int i] [] (124, I, J, R) (some (.int a)) (124, I, J, R)) (c2 : xEv L xs d 39 0 [.ref 41, .int i] [] (124, I, J, R) (some (.int b)) (124, I, J, R)) (c3 : xEv L xs d 39 0 [.ref 42, .int i] [] (124, I, J, R) (some (.int c)) (124, I, J, R)) (c4 : xEv L xs d 75 0 [.ref 53, .int a, .int 7] [] (124, I, J, R) none (124, I, J1, R)) (b2 : ((bar >>> (b &&& 31)) &&& 1).toInt ≠ 0) (c5 : xEv L xs d 77 0 [.ref 53, .int 7, .int 0, .int 100, xmk, xmk, xmk, xmk, xmk, xmk, xmk] [] (124, I, J1, R) none (124, I, J2, R)) (c6 : xEv L xs d 75 0 [.ref 53, .int b, .int 8] [] (124, I, J2, R) none (124, I, J3, R)) (b3 : ((bar >>> (a &&& 31)) &&& 1).toInt ≠ 0) (c7 : xEv L xs d 77 0 [.ref 53, .int 8, .int 0, .int 100, xmk, xmk, xmk, xmk, xmk, xmk, xmk] [] (124, I, J3, R) none (124, I, J4, R)) (c8 : xEv L xs d 76 0 [.ref 53, .int 7, .int a, xmk, xmk, xmk, xmk, xmk] [] (124, I, J4, R) none (124, I, J5, R)) (c9 : xEv L xs d 78 0 [.ref 53, .int 8, .int a, xmk, xmk, xmk, xmk, xmk] [] (124, I, J5, R) none (124, I, J6, R)) (c10 : xEv L xs d 76 0 [.ref 53, .int 8, .int b, xmk, xmk, xmk, xmk, xmk] [] (124, I, J6, R) none (124, I, J7, R)) (c11 : xEv L xs d 78 0 [.ref 53, .int 7, .int b, xmk, xmk, xmk, xmk, xmk] [] (124, I, J7, R) none (124, I, J8, R)) {v : Option Value} {h' : xH} (hk : xEv L xs (d + 1) 113 16 [.ref 53, .ref 37, .int bar, .int fr, .int tm, .int u, .int z, .int (i + 1), .int a, .int b, .int (c * u)] [] (124, I, J8, R) v h') : xEv L xs (d + 1) 113 16 [.ref 53, .ref 37, .int bar, .int fr, .int tm, .int u, .int z, .int i, w8, w9, wa] [] (124, I, J, R) v h' := by
  refine ev_go 2 (pc1 := 20) (lv1 := [.ref 53, .ref 37, .int bar, .int fr, .int tm, .int u, .int z, .int i, w8, w9, wa]) (st1 := [.int z, .int i]) (h1 := (124, I, J, R)) rfl ?_
  refine ev_br (b1 := false) rfl rfl (xcd_nge (x := i) (y := z) (by first | exact b1 | omega)) ?_
  refine ev_go 1 (pc1 := 24) (lv1 := [.ref 53, .ref 37, .int bar, .int fr, .int tm, .int u, .int z, .int i, w8, w9, wa]) (st1 := [.ref 37]) (h1 := (124, I, J, R)) rfl ?_
  refine ev_gf (c := 37) (t := 40) (X := R 37 2) rfl rfl (fun _ => rfl) rfl (hG 37 2 40 rfl rfl) ?_
  refine ev_go 1 (pc1 := 29) (lv1 := [.ref 53, .ref 37, .int bar, .int fr, .int tm, .int u, .int z, .int i, w8, w9, wa]) (st1 := [.int i, .ref 40]) (h1 := (124, I, J, R)) rfl ?_
  refine ev_call (v1 := (some (.int a))) (h1 := (124, I, J, R)) rfl rfl c1 ?_
  refine ev_go 2 (pc1 := 35) (lv1 := [.ref 53, .ref 37, .int bar, .int fr, .int tm, .int u, .int z, .int i, .int a, w9, wa]) (st1 := [.ref 37]) (h1 := (124, I, J, R)) rfl ?_
  refine ev_gf (c := 37) (t := 41) (X := R 37 3) rfl rfl (fun _ => rfl) rfl (hG 37 3 41 rfl rfl) ?_
  refine ev_go 1 (pc1 := 40) (lv1 := [.ref 53, .ref 37, .int bar, .int fr, .int tm, .int u, .int z, .int i, .int a, w9, wa]) (st1 := [.int i, .ref 41]) (h1 := (124, I, J, R)) rfl ?_
  refine ev_call (v1 := (some (.int b))) (h1 := (124, I, J, R)) rfl rfl c2 ?_
  refine ev_go 2 (pc1 := 46) (lv1 := [.ref 53, .ref 37, .int bar, .int fr, .int tm, .int u, .int z, .int i, .int a, .int b, wa]) (st1 := [.ref 37]) (h1 := (124, I, J, R)) rfl ?_
  refine ev_gf (c := 37) (t := 42) (X := R 37 4) rfl rfl (fun _ => rfl) rfl (hG 37 4 42 rfl rfl) ?_
  refine ev_go 1 (pc1 := 51) (lv1 := [.ref 53, .ref 37, .int bar, .int fr, .int tm, .int u, .int z, .int i, .int a, .int b, wa]) (st1 := [.int i, .ref 42]) (h1 := (124, I, J, R)) rfl ?_
  refine ev_call (v1 := (some (.int c))) (h1 := (124, I, J, R)) rfl rfl c3 ?_
  refine ev_go 6 (pc1 := 64) (lv1 := [.ref 53, .ref 37, .int bar, .int fr, .int tm, .int u, .int z, .int i, .int a, .int b, .int (c * u)]) (st1 := [.int 7, .int a, .ref 53]) (h1 := (124, I, J, R)) rfl ?_
  refine ev_call (v1 := none) (h1 := (124, I, J1, R)) rfl rfl c4 ?_
  refine ev_go 4 (pc1 := 73) (lv1 := [.ref 53, .ref 37, .int bar, .int fr, .int tm, .int u, .int z, .int i, .int a, .int b, .int (c * u)]) (st1 := [.int b, .int bar, .int 7, .ref 53]) (h1 := (124, I, J1, R)) rfl ?_
  refine ev_go 3 (pc1 := 76) (lv1 := [.ref 53, .ref 37, .int bar, .int fr, .int tm, .int u, .int z, .int i, .int a, .int b, .int (c * u)]) (st1 := [.int ((bar >>> (b &&& 31)) &&& 1), .int 7, .ref 53]) (h1 := (124, I, J1, R)) rfl ?_
  refine ev_br (b1 := true) rfl rfl (xcd_ne (x := ((bar >>> (b &&& 31)) &&& 1)) (y := 0) (by rw [show ((0 : Int32)).toInt = 0 from by decide]; first | exact b2 | omega)) ?_
  refine ev_go 2 (pc1 := 87) (lv1 := [.ref 53, .ref 37, .int bar, .int fr, .int tm, .int u, .int z, .int i, .int a, .int b, .int (c * u)]) (st1 := [.int 100, .int 0, .int 7, .ref 53]) (h1 := (124, I, J1, R)) rfl ?_
  refine ev_call (v1 := none) (h1 := (124, I, J2, R)) rfl rfl c5 ?_
  refine ev_go 3 (pc1 := 95) (lv1 := [.ref 53, .ref 37, .int bar, .int fr, .int tm, .int u, .int z, .int i, .int a, .int b, .int (c * u)]) (st1 := [.int 8, .int b, .ref 53]) (h1 := (124, I, J2, R)) rfl ?_
  refine ev_call (v1 := none) (h1 := (124, I, J3, R)) rfl rfl c6 ?_
  refine ev_go 4 (pc1 := 104) (lv1 := [.ref 53, .ref 37, .int bar, .int fr, .int tm, .int u, .int z, .int i, .int a, .int b, .int (c * u)]) (st1 := [.int a, .int bar, .int 8, .ref 53]) (h1 := (124, I, J3, R)) rfl ?_
  refine ev_go 3 (pc1 := 107) (lv1 := [.ref 53, .ref 37, .int bar, .int fr, .int tm, .int u, .int z, .int i, .int a, .int b, .int (c * u)]) (st1 := [.int ((bar >>> (a &&& 31)) &&& 1), .int 8, .ref 53]) (h1 := (124, I, J3, R)) rfl ?_
  refine ev_br (b1 := true) rfl rfl (xcd_ne (x := ((bar >>> (a &&& 31)) &&& 1)) (y := 0) (by rw [show ((0 : Int32)).toInt = 0 from by decide]; first | exact b3 | omega)) ?_
  refine ev_go 2 (pc1 := 118) (lv1 := [.ref 53, .ref 37, .int bar, .int fr, .int tm, .int u, .int z, .int i, .int a, .int b, .int (c * u)]) (st1 := [.int 100, .int 0, .int 8, .ref 53]) (h1 := (124, I, J3, R)) rfl ?_
  refine ev_call (v1 := none) (h1 := (124, I, J4, R)) rfl rfl c7 ?_
  refine ev_go 3 (pc1 := 126) (lv1 := [.ref 53, .ref 37, .int bar, .int fr, .int tm, .int u, .int z, .int i, .int a, .int b, .int (c * u)]) (st1 := [.int a, .int 7, .ref 53]) (h1 := (124, I, J4, R)) rfl ?_
  refine ev_call (v1 := none) (h1 := (124, I, J5, R)) rfl rfl c8 ?_
  refine ev_go 3 (pc1 := 134) (lv1 := [.ref 53, .ref 37, .int bar, .int fr, .int tm, .int u, .int z, .int i, .int a, .int b, .int (c * u)]) (st1 := [.int a, .int 8, .ref 53]) (h1 := (124, I, J5, R)) rfl ?_
  refine ev_call (v1 := none) (h1 := (124, I, J6, R)) rfl rfl c9 ?_
  refine ev_go 3 (pc1 := 142) (lv1 := [.ref 53, .ref 37, .int bar, .int fr, .int tm, .int u, .int z, .int i, .int a, .int b, .int (c * u)]) (st1 := [.int b, .int 8, .ref 53]) (h1 := (124, I, J6, R)) rfl ?_
  refine ev_call (v1 := none) (h1 := (124, I, J7, R)) rfl rfl c10 ?_
  refine ev_go 3 (pc1 := 150) (lv1 := [.ref 53, .ref 37, .int bar, .int fr, .int tm, .int u, .int z, .int i, .int a, .int b, .int (c * u)]) (st1 := [.int b, .int 7, .ref 53]) (h1 := (124, I, J7, R)) rfl ?_
  refine ev_call (v1 := none) (h1 := (124, I, J8, R)) rfl rfl c11 ?_
  refine ev_go 2 (pc1 := 16) (lv1 := [.ref 53, .ref 37, .int bar, .int fr, .int tm, .int u, .int z, .int (i + 1), .int a, .int b, .int (c * u)]) (st1 := []) (h1 := (124, I, J8, R)) rfl ?_
  exact hk
set_option maxRecDepth 20000 in
theorem qv2_n_23 {L : Nat} {xs : Nat → Int32} {d : Nat} {I : Nat → Nat → Int32} {J : Nat → Nat → Int64} {R : Nat → Nat → Nat} {a b t u z : Int32} (hG : aGd R) (r_R_0_8 : R 0 8 = 24) (c1 : xEv L xs d 59 0 [.ref 23, .int a] [] (124, I, J, R) (some (.int 0)) (124, I, J, R)) : xEv L xs (d + 1) 112 0 [.ref 0, .int a, .int b, .int t, .int u, .int z] [] (124, I, J, R) (some (.int 0)) (124, I, J, R) := by
  refine ev_go 1 (pc1 := 1) (lv1 := [.ref 0, .int a, .int b, .int t, .int u, .int z]) (st1 := [.ref 0]) (h1 := (124, I, J, R)) rfl ?_
  refine ev_gf (c := 0) (t := 23) (X := R 0 8) rfl rfl (fun _ => rfl) rfl r_R_0_8 ?_
  refine ev_go 1 (pc1 := 5) (lv1 := [.ref 0, .int a, .int b, .int t, .int u, .int z]) (st1 := [.int a, .ref 23]) (h1 := (124, I, J, R)) rfl ?_
  refine ev_call (v1 := (some (.int 0))) (h1 := (124, I, J, R)) rfl rfl c1 ?_
  refine ev_go 2 (pc1 := 60) (lv1 := [.ref 0, .int a, .int b, .int t, .int u, .int z]) (st1 := [.int 0]) (h1 := (124, I, J, R)) rfl ?_
  exact ev_ret rfl rfl
set_option maxRecDepth 20000 in
theorem qv2_p_23 {L : Nat} {xs : Nat → Int32} {d : Nat} {I : Nat → Nat → Int32} {J : Nat → Nat → Int64} {R : Nat → Nat → Nat} {a b t u z : Int32} (hG : aGd R) (r_R_0_8 : R 0 8 = 24) (c1 : xEv L xs d 59 0 [.ref 23, .int a] [] (124, I, J, R) (some (.int 1)) (124, I, J, R)) (c2 : xEv L xs d 64 0 [.ref 23, .int b] [] (124, I, J, R) (some (.int 0)) (124, I, J, R)) : xEv L xs (d + 1) 112 0 [.ref 0, .int a, .int b, .int t, .int u, .int z] [] (124, I, J, R) (some (.int 0)) (124, I, J, R) := by
  refine ev_go 1 (pc1 := 1) (lv1 := [.ref 0, .int a, .int b, .int t, .int u, .int z]) (st1 := [.ref 0]) (h1 := (124, I, J, R)) rfl ?_
  refine ev_gf (c := 0) (t := 23) (X := R 0 8) rfl rfl (fun _ => rfl) rfl r_R_0_8 ?_
  refine ev_go 1 (pc1 := 5) (lv1 := [.ref 0, .int a, .int b, .int t, .int u, .int z]) (st1 := [.int a, .ref 23]) (h1 := (124, I, J, R)) rfl ?_
  refine ev_call (v1 := (some (.int 1))) (h1 := (124, I, J, R)) rfl rfl c1 ?_
  refine ev_go 2 (pc1 := 12) (lv1 := [.ref 0, .int a, .int b, .int t, .int u, .int z]) (st1 := [.ref 0]) (h1 := (124, I, J, R)) rfl ?_
  refine ev_gf (c := 0) (t := 23) (X := R 0 8) rfl rfl (fun _ => rfl) rfl r_R_0_8 ?_
  refine ev_go 1 (pc1 := 16) (lv1 := [.ref 0, .int a, .int b, .int t, .int u, .int z]) (st1 := [.int b, .ref 23]) (h1 := (124, I, J, R)) rfl ?_
  refine ev_call (v1 := (some (.int 0))) (h1 := (124, I, J, R)) rfl rfl c2 ?_
  refine ev_go 2 (pc1 := 60) (lv1 := [.ref 0, .int a, .int b, .int t, .int u, .int z]) (st1 := [.int 0]) (h1 := (124, I, J, R)) rfl ?_
  exact ev_ret rfl rfl
set_option maxRecDepth 20000 in
theorem qv2_t_23 {L : Nat} {xs : Nat → Int32} {d : Nat} {I : Nat → Nat → Int32} {J : Nat → Nat → Int64} {R : Nat → Nat → Nat} {a b t u z : Int32} (hG : aGd R) (r_R_0_8 : R 0 8 = 24) (c1 : xEv L xs d 59 0 [.ref 23, .int a] [] (124, I, J, R) (some (.int 1)) (124, I, J, R)) (c2 : xEv L xs d 64 0 [.ref 23, .int b] [] (124, I, J, R) (some (.int 1)) (124, I, J, R)) (b1 : t.toInt < 0) : xEv L xs (d + 1) 112 0 [.ref 0, .int a, .int b, .int t, .int u, .int z] [] (124, I, J, R) (some (.int 0)) (124, I, J, R) := by
  refine ev_go 1 (pc1 := 1) (lv1 := [.ref 0, .int a, .int b, .int t, .int u, .int z]) (st1 := [.ref 0]) (h1 := (124, I, J, R)) rfl ?_
  refine ev_gf (c := 0) (t := 23) (X := R 0 8) rfl rfl (fun _ => rfl) rfl r_R_0_8 ?_
  refine ev_go 1 (pc1 := 5) (lv1 := [.ref 0, .int a, .int b, .int t, .int u, .int z]) (st1 := [.int a, .ref 23]) (h1 := (124, I, J, R)) rfl ?_
  refine ev_call (v1 := (some (.int 1))) (h1 := (124, I, J, R)) rfl rfl c1 ?_
  refine ev_go 2 (pc1 := 12) (lv1 := [.ref 0, .int a, .int b, .int t, .int u, .int z]) (st1 := [.ref 0]) (h1 := (124, I, J, R)) rfl ?_
  refine ev_gf (c := 0) (t := 23) (X := R 0 8) rfl rfl (fun _ => rfl) rfl r_R_0_8 ?_
  refine ev_go 1 (pc1 := 16) (lv1 := [.ref 0, .int a, .int b, .int t, .int u, .int z]) (st1 := [.int b, .ref 23]) (h1 := (124, I, J, R)) rfl ?_
  refine ev_call (v1 := (some (.int 1))) (h1 := (124, I, J, R)) rfl rfl c2 ?_
  refine ev_go 2 (pc1 := 23) (lv1 := [.ref 0, .int a, .int b, .int t, .int u, .int z]) (st1 := [.int t]) (h1 := (124, I, J, R)) rfl ?_
  refine ev_br (b1 := true) rfl rfl (xcd_lt (x := t) (y := 0) (by rw [show ((0 : Int32)).toInt = 0 from by decide]; first | exact b1 | omega)) ?_
  refine ev_go 1 (pc1 := 60) (lv1 := [.ref 0, .int a, .int b, .int t, .int u, .int z]) (st1 := [.int 0]) (h1 := (124, I, J, R)) rfl ?_
  exact ev_ret rfl rfl
set_option maxRecDepth 20000 in
theorem qv2_z_23 {L : Nat} {xs : Nat → Int32} {d : Nat} {I : Nat → Nat → Int32} {J : Nat → Nat → Int64} {R : Nat → Nat → Nat} {a b t u z : Int32} (hG : aGd R) (r_R_0_8 : R 0 8 = 24) (c1 : xEv L xs d 59 0 [.ref 23, .int a] [] (124, I, J, R) (some (.int 1)) (124, I, J, R)) (c2 : xEv L xs d 64 0 [.ref 23, .int b] [] (124, I, J, R) (some (.int 1)) (124, I, J, R)) (b1 : t.toInt ≥ 0) (b2 : z.toInt < t.toInt) : xEv L xs (d + 1) 112 0 [.ref 0, .int a, .int b, .int t, .int u, .int z] [] (124, I, J, R) (some (.int 0)) (124, I, J, R) := by
  refine ev_go 1 (pc1 := 1) (lv1 := [.ref 0, .int a, .int b, .int t, .int u, .int z]) (st1 := [.ref 0]) (h1 := (124, I, J, R)) rfl ?_
  refine ev_gf (c := 0) (t := 23) (X := R 0 8) rfl rfl (fun _ => rfl) rfl r_R_0_8 ?_
  refine ev_go 1 (pc1 := 5) (lv1 := [.ref 0, .int a, .int b, .int t, .int u, .int z]) (st1 := [.int a, .ref 23]) (h1 := (124, I, J, R)) rfl ?_
  refine ev_call (v1 := (some (.int 1))) (h1 := (124, I, J, R)) rfl rfl c1 ?_
  refine ev_go 2 (pc1 := 12) (lv1 := [.ref 0, .int a, .int b, .int t, .int u, .int z]) (st1 := [.ref 0]) (h1 := (124, I, J, R)) rfl ?_
  refine ev_gf (c := 0) (t := 23) (X := R 0 8) rfl rfl (fun _ => rfl) rfl r_R_0_8 ?_
  refine ev_go 1 (pc1 := 16) (lv1 := [.ref 0, .int a, .int b, .int t, .int u, .int z]) (st1 := [.int b, .ref 23]) (h1 := (124, I, J, R)) rfl ?_
  refine ev_call (v1 := (some (.int 1))) (h1 := (124, I, J, R)) rfl rfl c2 ?_
  refine ev_go 2 (pc1 := 23) (lv1 := [.ref 0, .int a, .int b, .int t, .int u, .int z]) (st1 := [.int t]) (h1 := (124, I, J, R)) rfl ?_
  refine ev_br (b1 := false) rfl rfl (xcd_nlt (x := t) (y := 0) (by rw [show ((0 : Int32)).toInt = 0 from by decide]; first | exact b1 | omega)) ?_
  refine ev_go 2 (pc1 := 29) (lv1 := [.ref 0, .int a, .int b, .int t, .int u, .int z]) (st1 := [.int t, .int z]) (h1 := (124, I, J, R)) rfl ?_
  refine ev_br (b1 := true) rfl rfl (xcd_lt (x := z) (y := t) (by first | exact b2 | omega)) ?_
  refine ev_go 1 (pc1 := 60) (lv1 := [.ref 0, .int a, .int b, .int t, .int u, .int z]) (st1 := [.int 0]) (h1 := (124, I, J, R)) rfl ?_
  exact ev_ret rfl rfl
set_option maxRecDepth 20000 in
theorem qv2_s_23 {L : Nat} {xs : Nat → Int32} {d : Nat} {I : Nat → Nat → Int32} {J : Nat → Nat → Int64} {R : Nat → Nat → Nat} {a b t u z : Int32} (hG : aGd R) (r_R_0_8 : R 0 8 = 24) (c1 : xEv L xs d 59 0 [.ref 23, .int a] [] (124, I, J, R) (some (.int 1)) (124, I, J, R)) (c2 : xEv L xs d 64 0 [.ref 23, .int b] [] (124, I, J, R) (some (.int 1)) (124, I, J, R)) (b1 : t.toInt ≥ 0) (b2 : z.toInt ≥ t.toInt) (b3 : z.toInt > (I 37 5).toInt) : xEv L xs (d + 1) 112 0 [.ref 0, .int a, .int b, .int t, .int u, .int z] [] (124, I, J, R) (some (.int 0)) (124, I, J, R) := by
  refine ev_go 1 (pc1 := 1) (lv1 := [.ref 0, .int a, .int b, .int t, .int u, .int z]) (st1 := [.ref 0]) (h1 := (124, I, J, R)) rfl ?_
  refine ev_gf (c := 0) (t := 23) (X := R 0 8) rfl rfl (fun _ => rfl) rfl r_R_0_8 ?_
  refine ev_go 1 (pc1 := 5) (lv1 := [.ref 0, .int a, .int b, .int t, .int u, .int z]) (st1 := [.int a, .ref 23]) (h1 := (124, I, J, R)) rfl ?_
  refine ev_call (v1 := (some (.int 1))) (h1 := (124, I, J, R)) rfl rfl c1 ?_
  refine ev_go 2 (pc1 := 12) (lv1 := [.ref 0, .int a, .int b, .int t, .int u, .int z]) (st1 := [.ref 0]) (h1 := (124, I, J, R)) rfl ?_
  refine ev_gf (c := 0) (t := 23) (X := R 0 8) rfl rfl (fun _ => rfl) rfl r_R_0_8 ?_
  refine ev_go 1 (pc1 := 16) (lv1 := [.ref 0, .int a, .int b, .int t, .int u, .int z]) (st1 := [.int b, .ref 23]) (h1 := (124, I, J, R)) rfl ?_
  refine ev_call (v1 := (some (.int 1))) (h1 := (124, I, J, R)) rfl rfl c2 ?_
  refine ev_go 2 (pc1 := 23) (lv1 := [.ref 0, .int a, .int b, .int t, .int u, .int z]) (st1 := [.int t]) (h1 := (124, I, J, R)) rfl ?_
  refine ev_br (b1 := false) rfl rfl (xcd_nlt (x := t) (y := 0) (by rw [show ((0 : Int32)).toInt = 0 from by decide]; first | exact b1 | omega)) ?_
  refine ev_go 2 (pc1 := 29) (lv1 := [.ref 0, .int a, .int b, .int t, .int u, .int z]) (st1 := [.int t, .int z]) (h1 := (124, I, J, R)) rfl ?_
  refine ev_br (b1 := false) rfl rfl (xcd_nlt (x := z) (y := t) (by first | exact b2 | omega)) ?_
  refine ev_go 2 (pc1 := 35) (lv1 := [.ref 0, .int a, .int b, .int t, .int u, .int z]) (st1 := [.ref 0, .int z]) (h1 := (124, I, J, R)) rfl ?_
  refine ev_gf (c := 0) (t := 23) (X := R 0 8) rfl rfl (fun _ => rfl) rfl r_R_0_8 ?_
  refine ev_gf (c := 23) (t := 37) (X := R 23 13) rfl rfl (fun _ => rfl) rfl (hG 23 13 37 rfl rfl) ?_
  refine ev_go 1 (pc1 := 44) (lv1 := [.ref 0, .int a, .int b, .int t, .int u, .int z]) (st1 := [.int (I 37 5), .int z]) (h1 := (124, I, J, R)) rfl ?_
  refine ev_br (b1 := true) rfl rfl (xcd_gt (x := z) (y := (I 37 5)) (by first | exact b3 | omega)) ?_
  refine ev_go 1 (pc1 := 60) (lv1 := [.ref 0, .int a, .int b, .int t, .int u, .int z]) (st1 := [.int 0]) (h1 := (124, I, J, R)) rfl ?_
  exact ev_ret rfl rfl
set_option maxRecDepth 20000 in
theorem qv2_u_23 {L : Nat} {xs : Nat → Int32} {d : Nat} {I : Nat → Nat → Int32} {J : Nat → Nat → Int64} {R : Nat → Nat → Nat} {a b t u z : Int32} (hG : aGd R) (r_R_0_8 : R 0 8 = 24) (c1 : xEv L xs d 59 0 [.ref 23, .int a] [] (124, I, J, R) (some (.int 1)) (124, I, J, R)) (c2 : xEv L xs d 64 0 [.ref 23, .int b] [] (124, I, J, R) (some (.int 1)) (124, I, J, R)) (b1 : t.toInt ≥ 0) (b2 : z.toInt ≥ t.toInt) (b3 : z.toInt ≤ (I 37 5).toInt) (b4 : u.toInt < 0) : xEv L xs (d + 1) 112 0 [.ref 0, .int a, .int b, .int t, .int u, .int z] [] (124, I, J, R) (some (.int 0)) (124, I, J, R) := by
  refine ev_go 1 (pc1 := 1) (lv1 := [.ref 0, .int a, .int b, .int t, .int u, .int z]) (st1 := [.ref 0]) (h1 := (124, I, J, R)) rfl ?_
  refine ev_gf (c := 0) (t := 23) (X := R 0 8) rfl rfl (fun _ => rfl) rfl r_R_0_8 ?_
  refine ev_go 1 (pc1 := 5) (lv1 := [.ref 0, .int a, .int b, .int t, .int u, .int z]) (st1 := [.int a, .ref 23]) (h1 := (124, I, J, R)) rfl ?_
  refine ev_call (v1 := (some (.int 1))) (h1 := (124, I, J, R)) rfl rfl c1 ?_
  refine ev_go 2 (pc1 := 12) (lv1 := [.ref 0, .int a, .int b, .int t, .int u, .int z]) (st1 := [.ref 0]) (h1 := (124, I, J, R)) rfl ?_
  refine ev_gf (c := 0) (t := 23) (X := R 0 8) rfl rfl (fun _ => rfl) rfl r_R_0_8 ?_
  refine ev_go 1 (pc1 := 16) (lv1 := [.ref 0, .int a, .int b, .int t, .int u, .int z]) (st1 := [.int b, .ref 23]) (h1 := (124, I, J, R)) rfl ?_
  refine ev_call (v1 := (some (.int 1))) (h1 := (124, I, J, R)) rfl rfl c2 ?_
  refine ev_go 2 (pc1 := 23) (lv1 := [.ref 0, .int a, .int b, .int t, .int u, .int z]) (st1 := [.int t]) (h1 := (124, I, J, R)) rfl ?_
  refine ev_br (b1 := false) rfl rfl (xcd_nlt (x := t) (y := 0) (by rw [show ((0 : Int32)).toInt = 0 from by decide]; first | exact b1 | omega)) ?_
  refine ev_go 2 (pc1 := 29) (lv1 := [.ref 0, .int a, .int b, .int t, .int u, .int z]) (st1 := [.int t, .int z]) (h1 := (124, I, J, R)) rfl ?_
  refine ev_br (b1 := false) rfl rfl (xcd_nlt (x := z) (y := t) (by first | exact b2 | omega)) ?_
  refine ev_go 2 (pc1 := 35) (lv1 := [.ref 0, .int a, .int b, .int t, .int u, .int z]) (st1 := [.ref 0, .int z]) (h1 := (124, I, J, R)) rfl ?_
  refine ev_gf (c := 0) (t := 23) (X := R 0 8) rfl rfl (fun _ => rfl) rfl r_R_0_8 ?_
  refine ev_gf (c := 23) (t := 37) (X := R 23 13) rfl rfl (fun _ => rfl) rfl (hG 23 13 37 rfl rfl) ?_
  refine ev_go 1 (pc1 := 44) (lv1 := [.ref 0, .int a, .int b, .int t, .int u, .int z]) (st1 := [.int (I 37 5), .int z]) (h1 := (124, I, J, R)) rfl ?_
  refine ev_br (b1 := false) rfl rfl (xcd_ngt (x := z) (y := (I 37 5)) (by first | exact b3 | omega)) ?_
  refine ev_go 1 (pc1 := 49) (lv1 := [.ref 0, .int a, .int b, .int t, .int u, .int z]) (st1 := [.int u]) (h1 := (124, I, J, R)) rfl ?_
  refine ev_br (b1 := true) rfl rfl (xcd_lt (x := u) (y := 0) (by rw [show ((0 : Int32)).toInt = 0 from by decide]; first | exact b4 | omega)) ?_
  refine ev_go 1 (pc1 := 60) (lv1 := [.ref 0, .int a, .int b, .int t, .int u, .int z]) (st1 := [.int 0]) (h1 := (124, I, J, R)) rfl ?_
  exact ev_ret rfl rfl
set_option maxRecDepth 20000 in
theorem qv2_w_23 {L : Nat} {xs : Nat → Int32} {d : Nat} {I : Nat → Nat → Int32} {J : Nat → Nat → Int64} {R : Nat → Nat → Nat} {a b t u z : Int32} (hG : aGd R) (r_R_0_8 : R 0 8 = 24) (c1 : xEv L xs d 59 0 [.ref 23, .int a] [] (124, I, J, R) (some (.int 1)) (124, I, J, R)) (c2 : xEv L xs d 64 0 [.ref 23, .int b] [] (124, I, J, R) (some (.int 1)) (124, I, J, R)) (b1 : t.toInt ≥ 0) (b2 : z.toInt ≥ t.toInt) (b3 : z.toInt ≤ (I 37 5).toInt) (b4 : u.toInt ≥ 0) (b5 : u.toInt > 10) : xEv L xs (d + 1) 112 0 [.ref 0, .int a, .int b, .int t, .int u, .int z] [] (124, I, J, R) (some (.int 0)) (124, I, J, R) := by
  refine ev_go 1 (pc1 := 1) (lv1 := [.ref 0, .int a, .int b, .int t, .int u, .int z]) (st1 := [.ref 0]) (h1 := (124, I, J, R)) rfl ?_
  refine ev_gf (c := 0) (t := 23) (X := R 0 8) rfl rfl (fun _ => rfl) rfl r_R_0_8 ?_
  refine ev_go 1 (pc1 := 5) (lv1 := [.ref 0, .int a, .int b, .int t, .int u, .int z]) (st1 := [.int a, .ref 23]) (h1 := (124, I, J, R)) rfl ?_
  refine ev_call (v1 := (some (.int 1))) (h1 := (124, I, J, R)) rfl rfl c1 ?_
  refine ev_go 2 (pc1 := 12) (lv1 := [.ref 0, .int a, .int b, .int t, .int u, .int z]) (st1 := [.ref 0]) (h1 := (124, I, J, R)) rfl ?_
  refine ev_gf (c := 0) (t := 23) (X := R 0 8) rfl rfl (fun _ => rfl) rfl r_R_0_8 ?_
  refine ev_go 1 (pc1 := 16) (lv1 := [.ref 0, .int a, .int b, .int t, .int u, .int z]) (st1 := [.int b, .ref 23]) (h1 := (124, I, J, R)) rfl ?_
  refine ev_call (v1 := (some (.int 1))) (h1 := (124, I, J, R)) rfl rfl c2 ?_
  refine ev_go 2 (pc1 := 23) (lv1 := [.ref 0, .int a, .int b, .int t, .int u, .int z]) (st1 := [.int t]) (h1 := (124, I, J, R)) rfl ?_
  refine ev_br (b1 := false) rfl rfl (xcd_nlt (x := t) (y := 0) (by rw [show ((0 : Int32)).toInt = 0 from by decide]; first | exact b1 | omega)) ?_
  refine ev_go 2 (pc1 := 29) (lv1 := [.ref 0, .int a, .int b, .int t, .int u, .int z]) (st1 := [.int t, .int z]) (h1 := (124, I, J, R)) rfl ?_
  refine ev_br (b1 := false) rfl rfl (xcd_nlt (x := z) (y := t) (by first | exact b2 | omega)) ?_
  refine ev_go 2 (pc1 := 35) (lv1 := [.ref 0, .int a, .int b, .int t, .int u, .int z]) (st1 := [.ref 0, .int z]) (h1 := (124, I, J, R)) rfl ?_
  refine ev_gf (c := 0) (t := 23) (X := R 0 8) rfl rfl (fun _ => rfl) rfl r_R_0_8 ?_
  refine ev_gf (c := 23) (t := 37) (X := R 23 13) rfl rfl (fun _ => rfl) rfl (hG 23 13 37 rfl rfl) ?_
  refine ev_go 1 (pc1 := 44) (lv1 := [.ref 0, .int a, .int b, .int t, .int u, .int z]) (st1 := [.int (I 37 5), .int z]) (h1 := (124, I, J, R)) rfl ?_
  refine ev_br (b1 := false) rfl rfl (xcd_ngt (x := z) (y := (I 37 5)) (by first | exact b3 | omega)) ?_
  refine ev_go 1 (pc1 := 49) (lv1 := [.ref 0, .int a, .int b, .int t, .int u, .int z]) (st1 := [.int u]) (h1 := (124, I, J, R)) rfl ?_
  refine ev_br (b1 := false) rfl rfl (xcd_nlt (x := u) (y := 0) (by rw [show ((0 : Int32)).toInt = 0 from by decide]; first | exact b4 | omega)) ?_
  refine ev_go 2 (pc1 := 56) (lv1 := [.ref 0, .int a, .int b, .int t, .int u, .int z]) (st1 := [.int 10, .int u]) (h1 := (124, I, J, R)) rfl ?_
  refine ev_br (b1 := false) rfl rfl (xcd_nle (x := u) (y := 10) (by rw [show ((10 : Int32)).toInt = 10 from by decide]; first | exact b5 | omega)) ?_
  refine ev_go 1 (pc1 := 60) (lv1 := [.ref 0, .int a, .int b, .int t, .int u, .int z]) (st1 := [.int 0]) (h1 := (124, I, J, R)) rfl ?_
  exact ev_ret rfl rfl
set_option maxRecDepth 20000 in
theorem qv2_y_23 {L : Nat} {xs : Nat → Int32} {d : Nat} {I : Nat → Nat → Int32} {J : Nat → Nat → Int64} {R : Nat → Nat → Nat} {I1 : Nat → Nat → Int32} {J1 : Nat → Nat → Int64} {a b t u z bar : Int32} (hG : aGd R) (r_R_0_8 : R 0 8 = 24) (c1 : xEv L xs d 59 0 [.ref 23, .int a] [] (124, I, J, R) (some (.int 1)) (124, I, J, R)) (c2 : xEv L xs d 64 0 [.ref 23, .int b] [] (124, I, J, R) (some (.int 1)) (124, I, J, R)) (b1 : t.toInt ≥ 0) (b2 : z.toInt ≥ t.toInt) (b3 : z.toInt ≤ (I 37 5).toInt) (b4 : u.toInt ≥ 0) (b5 : u.toInt ≤ 10) (c3 : xEv L xs d 39 0 [.ref 35, .int a] [] (124, I, J, R) (some (.int bar)) (124, I, J, R)) (c4 : xEv L xs d 113 0 [.ref 53, .ref 37, .int bar, .int b, .int t, .int u, .int z, xmk, xmk, xmk, xmk] [] (124, I, J, R) none (124, I1, J1, R)) : xEv L xs (d + 1) 112 0 [.ref 0, .int a, .int b, .int t, .int u, .int z] [] (124, I, J, R) (some (.int 1)) (124, I1, J1, R) := by
  refine ev_go 1 (pc1 := 1) (lv1 := [.ref 0, .int a, .int b, .int t, .int u, .int z]) (st1 := [.ref 0]) (h1 := (124, I, J, R)) rfl ?_
  refine ev_gf (c := 0) (t := 23) (X := R 0 8) rfl rfl (fun _ => rfl) rfl r_R_0_8 ?_
  refine ev_go 1 (pc1 := 5) (lv1 := [.ref 0, .int a, .int b, .int t, .int u, .int z]) (st1 := [.int a, .ref 23]) (h1 := (124, I, J, R)) rfl ?_
  refine ev_call (v1 := (some (.int 1))) (h1 := (124, I, J, R)) rfl rfl c1 ?_
  refine ev_go 2 (pc1 := 12) (lv1 := [.ref 0, .int a, .int b, .int t, .int u, .int z]) (st1 := [.ref 0]) (h1 := (124, I, J, R)) rfl ?_
  refine ev_gf (c := 0) (t := 23) (X := R 0 8) rfl rfl (fun _ => rfl) rfl r_R_0_8 ?_
  refine ev_go 1 (pc1 := 16) (lv1 := [.ref 0, .int a, .int b, .int t, .int u, .int z]) (st1 := [.int b, .ref 23]) (h1 := (124, I, J, R)) rfl ?_
  refine ev_call (v1 := (some (.int 1))) (h1 := (124, I, J, R)) rfl rfl c2 ?_
  refine ev_go 2 (pc1 := 23) (lv1 := [.ref 0, .int a, .int b, .int t, .int u, .int z]) (st1 := [.int t]) (h1 := (124, I, J, R)) rfl ?_
  refine ev_br (b1 := false) rfl rfl (xcd_nlt (x := t) (y := 0) (by rw [show ((0 : Int32)).toInt = 0 from by decide]; first | exact b1 | omega)) ?_
  refine ev_go 2 (pc1 := 29) (lv1 := [.ref 0, .int a, .int b, .int t, .int u, .int z]) (st1 := [.int t, .int z]) (h1 := (124, I, J, R)) rfl ?_
  refine ev_br (b1 := false) rfl rfl (xcd_nlt (x := z) (y := t) (by first | exact b2 | omega)) ?_
  refine ev_go 2 (pc1 := 35) (lv1 := [.ref 0, .int a, .int b, .int t, .int u, .int z]) (st1 := [.ref 0, .int z]) (h1 := (124, I, J, R)) rfl ?_
  refine ev_gf (c := 0) (t := 23) (X := R 0 8) rfl rfl (fun _ => rfl) rfl r_R_0_8 ?_
  refine ev_gf (c := 23) (t := 37) (X := R 23 13) rfl rfl (fun _ => rfl) rfl (hG 23 13 37 rfl rfl) ?_
  refine ev_go 1 (pc1 := 44) (lv1 := [.ref 0, .int a, .int b, .int t, .int u, .int z]) (st1 := [.int (I 37 5), .int z]) (h1 := (124, I, J, R)) rfl ?_
  refine ev_br (b1 := false) rfl rfl (xcd_ngt (x := z) (y := (I 37 5)) (by first | exact b3 | omega)) ?_
  refine ev_go 1 (pc1 := 49) (lv1 := [.ref 0, .int a, .int b, .int t, .int u, .int z]) (st1 := [.int u]) (h1 := (124, I, J, R)) rfl ?_
  refine ev_br (b1 := false) rfl rfl (xcd_nlt (x := u) (y := 0) (by rw [show ((0 : Int32)).toInt = 0 from by decide]; first | exact b4 | omega)) ?_
  refine ev_go 2 (pc1 := 56) (lv1 := [.ref 0, .int a, .int b, .int t, .int u, .int z]) (st1 := [.int 10, .int u]) (h1 := (124, I, J, R)) rfl ?_
  refine ev_br (b1 := true) rfl rfl (xcd_le (x := u) (y := 10) (by rw [show ((10 : Int32)).toInt = 10 from by decide]; first | exact b5 | omega)) ?_
  refine ev_go 1 (pc1 := 62) (lv1 := [.ref 0, .int a, .int b, .int t, .int u, .int z]) (st1 := [.ref 0]) (h1 := (124, I, J, R)) rfl ?_
  refine ev_gf (c := 0) (t := 53) (X := R 0 4) rfl rfl (fun _ => rfl) rfl (hG 0 4 53 rfl rfl) ?_
  refine ev_go 1 (pc1 := 66) (lv1 := [.ref 0, .int a, .int b, .int t, .int u, .int z]) (st1 := [.ref 0, .ref 53]) (h1 := (124, I, J, R)) rfl ?_
  refine ev_gf (c := 0) (t := 23) (X := R 0 8) rfl rfl (fun _ => rfl) rfl r_R_0_8 ?_
  refine ev_gf (c := 23) (t := 37) (X := R 23 13) rfl rfl (fun _ => rfl) rfl (hG 23 13 37 rfl rfl) ?_
  refine ev_go 1 (pc1 := 73) (lv1 := [.ref 0, .int a, .int b, .int t, .int u, .int z]) (st1 := [.ref 0, .ref 37, .ref 53]) (h1 := (124, I, J, R)) rfl ?_
  refine ev_gf (c := 0) (t := 23) (X := R 0 8) rfl rfl (fun _ => rfl) rfl r_R_0_8 ?_
  refine ev_gf (c := 23) (t := 35) (X := R 23 11) rfl rfl (fun _ => rfl) rfl (hG 23 11 35 rfl rfl) ?_
  refine ev_go 1 (pc1 := 80) (lv1 := [.ref 0, .int a, .int b, .int t, .int u, .int z]) (st1 := [.int a, .ref 35, .ref 37, .ref 53]) (h1 := (124, I, J, R)) rfl ?_
  refine ev_call (v1 := (some (.int bar))) (h1 := (124, I, J, R)) rfl rfl c3 ?_
  refine ev_go 4 (pc1 := 89) (lv1 := [.ref 0, .int a, .int b, .int t, .int u, .int z]) (st1 := [.int z, .int u, .int t, .int b, .int bar, .ref 37, .ref 53]) (h1 := (124, I, J, R)) rfl ?_
  refine ev_call (v1 := none) (h1 := (124, I1, J1, R)) rfl rfl c4 ?_
  refine ev_go 1 (pc1 := 93) (lv1 := [.ref 0, .int a, .int b, .int t, .int u, .int z]) (st1 := [.int 1]) (h1 := (124, I1, J1, R)) rfl ?_
  exact ev_ret rfl rfl
set_option maxRecDepth 20000 in
theorem qv3_p_23 {L : Nat} {xs : Nat → Int32} {d : Nat} {I : Nat → Nat → Int32} {J : Nat → Nat → Int64} {R : Nat → Nat → Nat} {a b t u z p : Int32} (hG : aGd R) (r_R_0_8 : R 0 8 = 24) (c1 : xEv L xs d 64 0 [.ref 23, .int p] [] (124, I, J, R) (some (.int 0)) (124, I, J, R)) : xEv L xs (d + 1) 111 0 [.ref 0, .int a, .int b, .int t, .int u, .int z, .int p] [] (124, I, J, R) (some (.int (-2))) (124, I, J, R) := by
  refine ev_go 1 (pc1 := 1) (lv1 := [.ref 0, .int a, .int b, .int t, .int u, .int z, .int p]) (st1 := [.ref 0]) (h1 := (124, I, J, R)) rfl ?_
  refine ev_gf (c := 0) (t := 23) (X := R 0 8) rfl rfl (fun _ => rfl) rfl r_R_0_8 ?_
  refine ev_go 1 (pc1 := 6) (lv1 := [.ref 0, .int a, .int b, .int t, .int u, .int z, .int p]) (st1 := [.int p, .ref 23]) (h1 := (124, I, J, R)) rfl ?_
  refine ev_call (v1 := (some (.int 0))) (h1 := (124, I, J, R)) rfl rfl c1 ?_
  refine ev_go 2 (pc1 := 28) (lv1 := [.ref 0, .int a, .int b, .int t, .int u, .int z, .int p]) (st1 := [.int (-2)]) (h1 := (124, I, J, R)) rfl ?_
  exact ev_ret rfl rfl
set_option maxRecDepth 20000 in
theorem qv3_s_23 {L : Nat} {xs : Nat → Int32} {d : Nat} {I : Nat → Nat → Int32} {J : Nat → Nat → Int64} {R : Nat → Nat → Nat} {a b t u z p : Int32} (hG : aGd R) (r_R_0_8 : R 0 8 = 24) (c1 : xEv L xs d 64 0 [.ref 23, .int p] [] (124, I, J, R) (some (.int 1)) (124, I, J, R)) (c2 : xEv L xs d 112 0 [.ref 0, .int a, .int b, .int t, .int u, .int z] [] (124, I, J, R) (some (.int 0)) (124, I, J, R)) : xEv L xs (d + 1) 111 0 [.ref 0, .int a, .int b, .int t, .int u, .int z, .int p] [] (124, I, J, R) (some (.int (-2))) (124, I, J, R) := by
  refine ev_go 1 (pc1 := 1) (lv1 := [.ref 0, .int a, .int b, .int t, .int u, .int z, .int p]) (st1 := [.ref 0]) (h1 := (124, I, J, R)) rfl ?_
  refine ev_gf (c := 0) (t := 23) (X := R 0 8) rfl rfl (fun _ => rfl) rfl r_R_0_8 ?_
  refine ev_go 1 (pc1 := 6) (lv1 := [.ref 0, .int a, .int b, .int t, .int u, .int z, .int p]) (st1 := [.int p, .ref 23]) (h1 := (124, I, J, R)) rfl ?_
  refine ev_call (v1 := (some (.int 1))) (h1 := (124, I, J, R)) rfl rfl c1 ?_
  refine ev_go 7 (pc1 := 20) (lv1 := [.ref 0, .int a, .int b, .int t, .int u, .int z, .int p]) (st1 := [.int z, .int u, .int t, .int b, .int a, .ref 0]) (h1 := (124, I, J, R)) rfl ?_
  refine ev_call (v1 := (some (.int 0))) (h1 := (124, I, J, R)) rfl rfl c2 ?_
  refine ev_go 2 (pc1 := 28) (lv1 := [.ref 0, .int a, .int b, .int t, .int u, .int z, .int p]) (st1 := [.int (-2)]) (h1 := (124, I, J, R)) rfl ?_
  exact ev_ret rfl rfl
set_option maxRecDepth 20000 in
theorem qv3_y_23 {L : Nat} {xs : Nat → Int32} {d : Nat} {I : Nat → Nat → Int32} {J : Nat → Nat → Int64} {R : Nat → Nat → Nat} {I1 : Nat → Nat → Int32} {J1 : Nat → Nat → Int64} {a b t u z p r1 : Int32} (hG : aGd R) (r_R_0_8 : R 0 8 = 24) (c1 : xEv L xs d 64 0 [.ref 23, .int p] [] (124, I, J, R) (some (.int 1)) (124, I, J, R)) (c2 : xEv L xs d 112 0 [.ref 0, .int a, .int b, .int t, .int u, .int z] [] (124, I, J, R) (some (.int 1)) (124, I1, J1, R)) (c3 : xEv L xs d 79 0 [.ref 53, .int p] [] (124, I1, J1, R) (some (.int r1)) (124, I1, J1, R)) : xEv L xs (d + 1) 111 0 [.ref 0, .int a, .int b, .int t, .int u, .int z, .int p] [] (124, I, J, R) (some (.int r1)) (124, I1, J1, R) := by
  refine ev_go 1 (pc1 := 1) (lv1 := [.ref 0, .int a, .int b, .int t, .int u, .int z, .int p]) (st1 := [.ref 0]) (h1 := (124, I, J, R)) rfl ?_
  refine ev_gf (c := 0) (t := 23) (X := R 0 8) rfl rfl (fun _ => rfl) rfl r_R_0_8 ?_
  refine ev_go 1 (pc1 := 6) (lv1 := [.ref 0, .int a, .int b, .int t, .int u, .int z, .int p]) (st1 := [.int p, .ref 23]) (h1 := (124, I, J, R)) rfl ?_
  refine ev_call (v1 := (some (.int 1))) (h1 := (124, I, J, R)) rfl rfl c1 ?_
  refine ev_go 7 (pc1 := 20) (lv1 := [.ref 0, .int a, .int b, .int t, .int u, .int z, .int p]) (st1 := [.int z, .int u, .int t, .int b, .int a, .ref 0]) (h1 := (124, I, J, R)) rfl ?_
  refine ev_call (v1 := (some (.int 1))) (h1 := (124, I1, J1, R)) rfl rfl c2 ?_
  refine ev_go 2 (pc1 := 30) (lv1 := [.ref 0, .int a, .int b, .int t, .int u, .int z, .int p]) (st1 := [.ref 0]) (h1 := (124, I1, J1, R)) rfl ?_
  refine ev_gf (c := 0) (t := 53) (X := R 0 4) rfl rfl (fun _ => rfl) rfl (hG 0 4 53 rfl rfl) ?_
  refine ev_go 1 (pc1 := 35) (lv1 := [.ref 0, .int a, .int b, .int t, .int u, .int z, .int p]) (st1 := [.int p, .ref 53]) (h1 := (124, I1, J1, R)) rfl ?_
  refine ev_call (v1 := (some (.int r1))) (h1 := (124, I1, J1, R)) rfl rfl c3 ?_
  exact ev_ret rfl rfl
set_option maxRecDepth 20000 in
theorem qv4_n_23 {L : Nat} {xs : Nat → Int32} {d : Nat} {I : Nat → Nat → Int32} {J : Nat → Nat → Int64} {R : Nat → Nat → Nat} {a b t u z : Int32} (hG : aGd R) (c1 : xEv L xs d 112 0 [.ref 0, .int a, .int b, .int t, .int u, .int z] [] (124, I, J, R) (some (.int 0)) (124, I, J, R)) : xEv L xs (d + 1) 114 0 [.ref 0, .int a, .int b, .int t, .int u, .int z, xmk, xmk] [] (124, I, J, R) (some (.int (-2))) (124, I, J, R) := by
  refine ev_go 6 (pc1 := 8) (lv1 := [.ref 0, .int a, .int b, .int t, .int u, .int z, xmk, xmk]) (st1 := [.int z, .int u, .int t, .int b, .int a, .ref 0]) (h1 := (124, I, J, R)) rfl ?_
  refine ev_call (v1 := (some (.int 0))) (h1 := (124, I, J, R)) rfl rfl c1 ?_
  refine ev_go 2 (pc1 := 16) (lv1 := [.ref 0, .int a, .int b, .int t, .int u, .int z, xmk, xmk]) (st1 := [.int (-2)]) (h1 := (124, I, J, R)) rfl ?_
  exact ev_ret rfl rfl
set_option maxRecDepth 20000 in
theorem qv4_s_23 {L : Nat} {xs : Nat → Int32} {d : Nat} {I : Nat → Nat → Int32} {J : Nat → Nat → Int64} {R : Nat → Nat → Nat} {I1 : Nat → Nat → Int32} {J1 : Nat → Nat → Int64} {a b t u z : Int32} (hG : aGd R) (c1 : xEv L xs d 112 0 [.ref 0, .int a, .int b, .int t, .int u, .int z] [] (124, I, J, R) (some (.int 1)) (124, I1, J1, R)) {v : Option Value} {h' : xH} (hk : xEv L xs (d + 1) 114 23 [.ref 0, .int a, .int b, .int t, .int u, .int z, .int 0, .int 1] [] (124, I1, J1, R) v h') : xEv L xs (d + 1) 114 0 [.ref 0, .int a, .int b, .int t, .int u, .int z, xmk, xmk] [] (124, I, J, R) v h' := by
  refine ev_go 6 (pc1 := 8) (lv1 := [.ref 0, .int a, .int b, .int t, .int u, .int z, xmk, xmk]) (st1 := [.int z, .int u, .int t, .int b, .int a, .ref 0]) (h1 := (124, I, J, R)) rfl ?_
  refine ev_call (v1 := (some (.int 1))) (h1 := (124, I1, J1, R)) rfl rfl c1 ?_
  refine ev_go 5 (pc1 := 23) (lv1 := [.ref 0, .int a, .int b, .int t, .int u, .int z, .int 0, .int 1]) (st1 := []) (h1 := (124, I1, J1, R)) rfl ?_
  exact hk
set_option maxRecDepth 20000 in
theorem qv4_e_23 {L : Nat} {xs : Nat → Int32} {d : Nat} {I : Nat → Nat → Int32} {J : Nat → Nat → Int64} {R : Nat → Nat → Nat} {a b t u z m q : Int32} (hG : aGd R) (r_R_0_8 : R 0 8 = 24) (b1 : q.toInt ≥ (I 23 14).toInt) : xEv L xs d 114 23 [.ref 0, .int a, .int b, .int t, .int u, .int z, .int m, .int q] [] (124, I, J, R) (some (.int m)) (124, I, J, R) := by
  refine ev_go 2 (pc1 := 26) (lv1 := [.ref 0, .int a, .int b, .int t, .int u, .int z, .int m, .int q]) (st1 := [.ref 0, .int q]) (h1 := (124, I, J, R)) rfl ?_
  refine ev_gf (c := 0) (t := 23) (X := R 0 8) rfl rfl (fun _ => rfl) rfl r_R_0_8 ?_
  refine ev_go 1 (pc1 := 32) (lv1 := [.ref 0, .int a, .int b, .int t, .int u, .int z, .int m, .int q]) (st1 := [.int (I 23 14), .int q]) (h1 := (124, I, J, R)) rfl ?_
  refine ev_br (b1 := true) rfl rfl (xcd_ge (x := q) (y := (I 23 14)) (by first | exact b1 | omega)) ?_
  refine ev_go 1 (pc1 := 61) (lv1 := [.ref 0, .int a, .int b, .int t, .int u, .int z, .int m, .int q]) (st1 := [.int m]) (h1 := (124, I, J, R)) rfl ?_
  exact ev_ret rfl rfl
set_option maxRecDepth 20000 in
theorem qv4_y_23 {L : Nat} {xs : Nat → Int32} {d : Nat} {I : Nat → Nat → Int32} {J : Nat → Nat → Int64} {R : Nat → Nat → Nat} {a b t u z m q o : Int32} (hG : aGd R) (r_R_0_8 : R 0 8 = 24) (b1 : q.toInt < (I 23 14).toInt) (c1 : xEv L xs d 72 0 [.ref 53, .int q, .int m, xmk, xmk] [] (124, I, J, R) (some (.int o)) (124, I, J, R)) (b2 : o.toInt > 0) {v : Option Value} {h' : xH} (hk : xEv L xs (d + 1) 114 23 [.ref 0, .int a, .int b, .int t, .int u, .int z, .int q, .int (q + 1)] [] (124, I, J, R) v h') : xEv L xs (d + 1) 114 23 [.ref 0, .int a, .int b, .int t, .int u, .int z, .int m, .int q] [] (124, I, J, R) v h' := by
  refine ev_go 2 (pc1 := 26) (lv1 := [.ref 0, .int a, .int b, .int t, .int u, .int z, .int m, .int q]) (st1 := [.ref 0, .int q]) (h1 := (124, I, J, R)) rfl ?_
  refine ev_gf (c := 0) (t := 23) (X := R 0 8) rfl rfl (fun _ => rfl) rfl r_R_0_8 ?_
  refine ev_go 1 (pc1 := 32) (lv1 := [.ref 0, .int a, .int b, .int t, .int u, .int z, .int m, .int q]) (st1 := [.int (I 23 14), .int q]) (h1 := (124, I, J, R)) rfl ?_
  refine ev_br (b1 := false) rfl rfl (xcd_nge (x := q) (y := (I 23 14)) (by first | exact b1 | omega)) ?_
  refine ev_go 1 (pc1 := 36) (lv1 := [.ref 0, .int a, .int b, .int t, .int u, .int z, .int m, .int q]) (st1 := [.ref 0]) (h1 := (124, I, J, R)) rfl ?_
  refine ev_gf (c := 0) (t := 53) (X := R 0 4) rfl rfl (fun _ => rfl) rfl (hG 0 4 53 rfl rfl) ?_
  refine ev_go 2 (pc1 := 43) (lv1 := [.ref 0, .int a, .int b, .int t, .int u, .int z, .int m, .int q]) (st1 := [.int m, .int q, .ref 53]) (h1 := (124, I, J, R)) rfl ?_
  refine ev_call (v1 := (some (.int o))) (h1 := (124, I, J, R)) rfl rfl c1 ?_
  refine ev_br (b1 := false) rfl rfl (xcd_nle (x := o) (y := 0) (by rw [show ((0 : Int32)).toInt = 0 from by decide]; first | exact b2 | omega)) ?_
  refine ev_go 4 (pc1 := 23) (lv1 := [.ref 0, .int a, .int b, .int t, .int u, .int z, .int q, .int (q + 1)]) (st1 := []) (h1 := (124, I, J, R)) rfl ?_
  exact hk
set_option maxRecDepth 20000 in
theorem qv4_k_23 {L : Nat} {xs : Nat → Int32} {d : Nat} {I : Nat → Nat → Int32} {J : Nat → Nat → Int64} {R : Nat → Nat → Nat} {a b t u z m q o : Int32} (hG : aGd R) (r_R_0_8 : R 0 8 = 24) (b1 : q.toInt < (I 23 14).toInt) (c1 : xEv L xs d 72 0 [.ref 53, .int q, .int m, xmk, xmk] [] (124, I, J, R) (some (.int o)) (124, I, J, R)) (b2 : o.toInt ≤ 0) {v : Option Value} {h' : xH} (hk : xEv L xs (d + 1) 114 23 [.ref 0, .int a, .int b, .int t, .int u, .int z, .int m, .int (q + 1)] [] (124, I, J, R) v h') : xEv L xs (d + 1) 114 23 [.ref 0, .int a, .int b, .int t, .int u, .int z, .int m, .int q] [] (124, I, J, R) v h' := by
  refine ev_go 2 (pc1 := 26) (lv1 := [.ref 0, .int a, .int b, .int t, .int u, .int z, .int m, .int q]) (st1 := [.ref 0, .int q]) (h1 := (124, I, J, R)) rfl ?_
  refine ev_gf (c := 0) (t := 23) (X := R 0 8) rfl rfl (fun _ => rfl) rfl r_R_0_8 ?_
  refine ev_go 1 (pc1 := 32) (lv1 := [.ref 0, .int a, .int b, .int t, .int u, .int z, .int m, .int q]) (st1 := [.int (I 23 14), .int q]) (h1 := (124, I, J, R)) rfl ?_
  refine ev_br (b1 := false) rfl rfl (xcd_nge (x := q) (y := (I 23 14)) (by first | exact b1 | omega)) ?_
  refine ev_go 1 (pc1 := 36) (lv1 := [.ref 0, .int a, .int b, .int t, .int u, .int z, .int m, .int q]) (st1 := [.ref 0]) (h1 := (124, I, J, R)) rfl ?_
  refine ev_gf (c := 0) (t := 53) (X := R 0 4) rfl rfl (fun _ => rfl) rfl (hG 0 4 53 rfl rfl) ?_
  refine ev_go 2 (pc1 := 43) (lv1 := [.ref 0, .int a, .int b, .int t, .int u, .int z, .int m, .int q]) (st1 := [.int m, .int q, .ref 53]) (h1 := (124, I, J, R)) rfl ?_
  refine ev_call (v1 := (some (.int o))) (h1 := (124, I, J, R)) rfl rfl c1 ?_
  refine ev_br (b1 := true) rfl rfl (xcd_le (x := o) (y := 0) (by rw [show ((0 : Int32)).toInt = 0 from by decide]; first | exact b2 | omega)) ?_
  refine ev_go 2 (pc1 := 23) (lv1 := [.ref 0, .int a, .int b, .int t, .int u, .int z, .int m, .int (q + 1)]) (st1 := []) (h1 := (124, I, J, R)) rfl ?_
  exact hk
theorem qw_step_23 {L : Nat} {xs : Nat → Int32} {d : Nat} {I : Nat → Nat → Int32} {J : Nat → Nat → Int64} {R : Nat → Nat → Nat} (hG : aGd R) {bar fr tm u z i : Int32} {w8 w9 wa : Value} {un tN aN bN : Nat} (hu : (I 53 1).toInt = un) (h1 : 1 ≤ un) (h9 : un ≤ 9) (gj : cG J un) (ht : i.toInt < z.toInt) (et : i.toInt = tN) (t64 : tN < 64) (ha : (I 40 tN).toInt = aN) (hb : (I 41 tN).toInt = bN) (a7 : aN < 7) (b7 : bN < 7) (hab : aN ≠ bN) (hc0 : 0 ≤ ((I 42 tN) * u).toInt) (hc1 : ((I 42 tN) * u).toInt ≤ 100) (va : cV J un aN ≤ tn (16 * (un - 1))) (vb : cV J un bN ≤ tn (16 * (un - 1))) {mx my : Int} (hx : (qhu bar (I 41 tN) ((I 42 tN) * u)).toInt * cV J un aN = 100 * mx) (hy : (qhu bar (I 40 tN) ((I 42 tN) * u)).toInt * cV J un bN = 100 * my) :
    ∃ (J' : Nat → Nat → Int64) (w8' w9' wa' : Value), (∀ (v : Option Value) (h' : xH), xEv L xs (d + 2) 113 16 [.ref 53, .ref 37, .int bar, .int fr, .int tm, .int u, .int z, .int (i + 1), w8', w9', wa'] [] (124, I, J', R) v h' → xEv L xs (d + 2) 113 16 [.ref 53, .ref 37, .int bar, .int fr, .int tm, .int u, .int z, .int i, w8, w9, wa] [] (124, I, J, R) v h') ∧ (∀ c, c ≠ 54 → ∀ q, J' c q = J c q) ∧ cG J' un ∧ cV J' un aN = cV J un aN - mx + my ∧ cV J' un bN = cV J un bN - my + mx ∧ ∀ p, p < 7 → p ≠ aN → p ≠ bN → cV J' un p = cV J un p := by
  have ec := clamp_s (i := i) (by omega)
  have ekt : i.toNatClampNeg = tN := by omega
  have at1 : ∀ c, (∀ g : FieldType → Nat → Option xR, xarr (124, I, J, R) c g = g .int 64) → ∀ d, xEv L xs d 39 0 [.ref c, .int i] [] (124, I, J, R) (some (.int (I c tN))) (124, I, J, R) := by
    intro c ho d
    have h4 := at_run (L := L) (xs := xs) (d := d) (h := (124, I, J, R)) ho (by decide) i
    rw [if_pos ⟨by omega, by omega⟩, ekt] at h4
    exact h4
  have k1 := at1 40 (fun _ => rfl) (d + 1)
  have k2 := at1 41 (fun _ => rfl) (d + 1)
  have k3 := at1 42 (fun _ => rfl) (d + 1)
  have ba := qhu_b (n := bar) (w := I 40 tN) hc0 hc1
  have bb := qhu_b (n := bar) (w := I 41 tN) hc0 hc1
  obtain ⟨J1, J2, J3, J4, J5, J6, J7, J8, o1, o2, o3, o4, o5, o6, o7, o8, o9, oa, ob, oc, od⟩ := qw_ops (L := L) (xs := xs) (d := d) (I := I) (J := J) hG (fa := qhu bar (I 40 tN) ((I 42 tN) * u)) (fb := qhu bar (I 41 tN) ((I 42 tN) * u)) hu h1 h9 ha hb a7 b7 hab ba.1 ba.2 bb.1 bb.2 gj va vb hx hy
  refine ⟨J8, .int (I 40 tN), .int (I 41 tN), .int ((I 42 tN) * u), fun v h' zz => ?_, o9, oa, ob, oc, od⟩
  by_cases hb0 : ((bar >>> (I 41 tN &&& 31)) &&& 1).toInt = 0
  · rw [show qhu bar (I 41 tN) ((I 42 tN) * u) = (I 42 tN) * u from if_pos hb0] at o2
    by_cases ha0 : ((bar >>> (I 40 tN &&& 31)) &&& 1).toInt = 0
    · rw [show qhu bar (I 40 tN) ((I 42 tN) * u) = (I 42 tN) * u from if_pos ha0] at o4
      exact qw_00_23 hG ht k1 k2 k3 o1 hb0 o2 o3 ha0 o4 o5 o6 o7 o8 zz
    · rw [show qhu bar (I 40 tN) ((I 42 tN) * u) = 0 from if_neg ha0] at o4
      exact qw_01_23 hG ht k1 k2 k3 o1 hb0 o2 o3 ha0 o4 o5 o6 o7 o8 zz
  · rw [show qhu bar (I 41 tN) ((I 42 tN) * u) = 0 from if_neg hb0] at o2
    by_cases ha0 : ((bar >>> (I 40 tN &&& 31)) &&& 1).toInt = 0
    · rw [show qhu bar (I 40 tN) ((I 42 tN) * u) = (I 42 tN) * u from if_pos ha0] at o4
      exact qw_10_23 hG ht k1 k2 k3 o1 hb0 o2 o3 ha0 o4 o5 o6 o7 o8 zz
    · rw [show qhu bar (I 40 tN) ((I 42 tN) * u) = 0 from if_neg ha0] at o4
      exact qw_11_23 hG ht k1 k2 k3 o1 hb0 o2 o3 ha0 o4 o5 o6 o7 o8 zz
theorem qlw_23 {L : Nat} {xs : Nat → Int32} {d d' : Nat} {R Rr : Nat → Nat → Nat} (hG : aGd R) (hGr : aGd Rr) {np nm nn : Nat} {l : List (Nat × Nat)} {I0 I Ir0 : Nat → Nat → Int32} (hV : VR_23 np nm nn l I0 Ir0) (hI : ∀ c k, ¬ (c = 53 ∧ k = 1) → I c k = I0 c k) (hch : ∀ q, q < 16 → 0 ≤ (Ir0 95 q).toInt ∧ (Ir0 95 q).toInt ≤ 10) {fr tm u z nw : Int32} {un zN : Nat} (hu : (I 53 1).toInt = un) (h1 : 1 ≤ un) (h9 : un ≤ 9) (hz : z.toInt = zN) (zl : zN ≤ l.length) (u0 : 0 ≤ u.toInt) (u10 : u.toInt ≤ 10) (n0 : 0 ≤ nw.toInt) (n4 : nw.toInt < nn) : ∀ (n sN tN : Nat) (t : Int32) (w8 w9 wa u7 u8 u9 ua ub uc : Value) (Ir : Nat → Nat → Int32) (J Jr : Nat → Nat → Int64), tN + n = zN → t.toInt = tN → sN + 2 * n ≤ 16 * (un - 1) → sN + 2 * n ≤ 128 → (∀ c k, ¬ (c = 86 ∧ k = 40) → Ir c k = Ir0 c k) → (Ir 86 40).toInt = sN → cG J un → rG Jr → (∀ p, p < np → cV J un p = rV Jr p * tn (16 * (un - 1) - sN)) → sT 0 (rV Jr) np = tn sN →
    ∃ (Ir' : Nat → Nat → Int32) (J' Jr' : Nat → Nat → Int64), xEv L xs (d + 2) 113 16 [.ref 53, .ref 37, .int (Ir0 100 nw.toNatClampNeg), .int fr, .int tm, .int u, .int z, .int t, w8, w9, wa] [] (124, I, J, R) none (124, I, J', R) ∧ xEv L xs (d' + 1) 217 17 [.ref 86, .int nw, .int fr, .int tm, .int u, .int z, .int t, u7, u8, u9, ua, ub, uc] [] (124, Ir, Jr, Rr) none (124, Ir', Jr', Rr) ∧ (∀ c k, ¬ (c = 86 ∧ k = 40) → Ir' c k = Ir0 c k) ∧ (Ir' 86 40).toInt = (sN + 2 * n : Nat) ∧ (∀ c, c ≠ 54 → ∀ q, J' c q = J c q) ∧ cG J' un ∧ rG Jr' ∧ (∀ p, p < np → cV J' un p = rV Jr' p * tn (16 * (un - 1) - (sN + 2 * n)) ∧ rV Jr' p ≤ tn (sN + 2 * n)) := by
  have hV0 := hV
  obtain ⟨⟨p1, p2, p3⟩, p4, p5, p6, ⟨q1, q2⟩, ⟨q3, q4⟩, ⟨q5, q6⟩, q7, -⟩ := hV
  intro n
  induction n with
  | zero =>
    intro sN tN t w8 w9 wa u7 u8 u9 ua ub uc Ir J Jr ht et sE s8 hIr hs gj gr hR hS
    have sl := s0_le (f := rV Jr) np (fun q hq => (rV_b (gr q (by omega))).1)
    exact ⟨Ir, J, Jr, qw_e_23 hG (by omega), qqw_e hGr (by omega), hIr, by rw [Nat.mul_zero, Nat.add_zero]; exact hs, fun _ _ _ => rfl, gj, gr, fun p hp => by rw [Nat.mul_zero, Nat.add_zero]; exact ⟨hR p hp, by rw [← hS]; exact sl.2 p hp⟩⟩
  | succ n ih =>
    intro sN tN t w8 w9 wa u7 u8 u9 ua ub uc Ir J Jr ht et sE s8 hIr hs gj gr hR hS
    have ec := clamp_s (i := t) (by omega)
    have ekt : t.toNatClampNeg = tN := by omega
    have hk' : (t + 1).toInt = (tN + 1 : Nat) := by rw [i_add1 (by omega)]; omega
    obtain ⟨b, hb, -, e1, e2, e3, e4, g1, g2, g3, g4, g5⟩ := tmz_23 hV0 (t := tN) (by omega)
    obtain ⟨aN, ha⟩ := Int.eq_ofNat_of_zero_le g1
    obtain ⟨bN, hbN⟩ := Int.eq_ofNat_of_zero_le g3
    obtain ⟨c0, c10⟩ := hch b (by omega)
    have cu0 := Int.mul_nonneg c0 u0
    have cu1 := Int.mul_le_mul c10 u10 u0 (by decide)
    have ecu : ((Ir0 95 b) * u).toInt = (Ir0 95 b).toInt * u.toInt := i_mul (by omega) (by omega)
    have sl := s0_le (f := rV Jr) np (fun q hq => (rV_b (gr q (by omega))).1)
    rw [hS] at sl
    have va := sl.2 aN (by omega)
    have vb := sl.2 bN (by omega)
    have ra := hR aN (by omega)
    have rb := hR bN (by omega)
    obtain ⟨E, hE⟩ : ∃ E, 16 * (un - 1) - sN = E + 2 := ⟨16 * (un - 1) - sN - 2, by omega⟩
    have hE2 : 16 * (un - 1) - (sN + 2) = E := by omega
    have tE : tn (E + 2) = 100 * tn E := by
      rw [tn_1 (E + 1), tn_1 E]
      omega
    have tpos := tn_pos E
    have tpos1 := tn_pos (E + 2)
    rw [hE] at ra rb
    have full : tn (16 * (un - 1)) = tn sN * tn (E + 2) := by rw [← tn_add]; congr 1; omega
    have ca : cV J un aN ≤ tn (16 * (un - 1)) := by rw [ra, full]; exact Int.mul_le_mul_of_nonneg_right va (Int.le_of_lt tpos1)
    have cb : cV J un bN ≤ tn (16 * (un - 1)) := by rw [rb, full]; exact Int.mul_le_mul_of_nonneg_right vb (Int.le_of_lt tpos1)
    have f1 : I 40 tN = Ir0 92 b := by rw [hI _ _ (by omega)]; exact e2
    have f2 : I 41 tN = Ir0 93 b := by rw [hI _ _ (by omega)]; exact e3
    have f3 : I 42 tN = Ir0 95 b := by rw [hI _ _ (by omega)]; exact e4
    have r92 : Ir 92 b = Ir0 92 b := hIr _ _ (by omega)
    have r93 : Ir 93 b = Ir0 93 b := hIr _ _ (by omega)
    have r95 : Ir 95 b = Ir0 95 b := hIr _ _ (by omega)
    have r100 : Ir 100 nw.toNatClampNeg = Ir0 100 nw.toNatClampNeg := hIr _ _ (by omega)
    obtain ⟨qa, hqa⟩ : ∃ x, qhu (Ir0 100 nw.toNatClampNeg) (Ir0 92 b) ((Ir0 95 b) * u) = x := ⟨_, rfl⟩
    obtain ⟨qb, hqb⟩ : ∃ x, qhu (Ir0 100 nw.toNatClampNeg) (Ir0 93 b) ((Ir0 95 b) * u) = x := ⟨_, rfl⟩
    have hx : qb.toInt * cV J un aN = 100 * (qb.toInt * rV Jr aN * tn E) := by
      rw [ra, tE]
      ac_rfl
    have hy : qa.toInt * cV J un bN = 100 * (qa.toInt * rV Jr bN * tn E) := by
      rw [rb, tE]
      ac_rfl
    obtain ⟨J1, w8', w9', wa', x1, x2, x3, x4, x5, x6⟩ := qw_step_23 (L := L) (xs := xs) (d := d) (I := I) (J := J) hG (bar := Ir0 100 nw.toNatClampNeg) (fr := fr) (tm := tm) (u := u) (z := z) (i := t) (w8 := w8) (w9 := w9) (wa := wa) hu h1 h9 gj (by omega) et (by omega) (by rw [f1]; exact ha) (by rw [f2]; exact hbN) (by omega) (by omega) (by omega) (by rw [f3]; omega) (by rw [f3]; omega) ca cb (by rw [f2, f3, hqb]; exact hx) (by rw [f1, f3, hqa]; exact hy)
    obtain ⟨Jr1, u7', u8', u9', ua', ub', uc', y1, y2, y3, y4, y5⟩ := qqw_step (L := L) (xs := xs) (d := d') (I := Ir) (J := Jr) hGr (nw := nw) (fr := fr) (tm := tm) (u := u) (z := z) (t := t) (w7 := u7) (w8 := u8) (w9 := u9) (wa := ua) (wb := ub) (wc := uc) (np := np) (sN := sN) (mN := b) (aN := aN) (bN := bN) (by rw [hIr _ _ (by omega)]; exact q2) p1 (by omega) hs gr sl.2 (by omega) (by omega) (by omega) (by rw [ekt, hIr _ _ (by omega)]; exact e1) (by omega) (by rw [r92]; exact ha) (by rw [r93]; exact hbN) (by omega) (by omega) (by omega) n0 (by omega) (by rw [r95]; omega) (by rw [r95]; omega)
    rw [r100, r92, r93, r95, hqa, hqb] at y3 y4
    have s40 : ((uI Ir 86 40 (Ir 86 40 + 2)) 86 40).toInt = (sN + 2 : Nat) := by rw [uI_s, i_add (by rw [show (2 : Int32).toInt = 2 from by decide]; omega) (by rw [show (2 : Int32).toInt = 2 from by decide]; omega), show (2 : Int32).toInt = 2 from by decide]; omega
    have hR1 : ∀ p, p < np → cV J1 un p = rV Jr1 p * tn (16 * (un - 1) - (sN + 2)) := by
      intro p hp
      rw [hE2]
      by_cases ea : p = aN
      · rw [ea, x4, y3, ra, tE, Int.add_mul, Int.sub_mul, Int.sub_mul]
        have z1 : rV Jr aN * (100 * tn E) = 100 * rV Jr aN * tn E := by ac_rfl
        rw [z1]
      · by_cases eb : p = bN
        · rw [eb, x5, y4, rb, tE, Int.add_mul, Int.sub_mul, Int.sub_mul]
          have z1 : rV Jr bN * (100 * tn E) = 100 * rV Jr bN * tn E := by ac_rfl
          rw [z1]
        · have hh := hR p hp
          rw [hE] at hh
          rw [x6 p (by omega) ea eb, y5 p hp ea eb, hh, tE]
          ac_rfl
    have hS1 : sT 0 (rV Jr1) np = tn (sN + 2) := by
      have z := s0_2 (f := rV Jr) (g := rV Jr1) (k := 100) (a := aN) (b := bN) (by omega) np (fun q hq h1 h2 => y5 q hq h1 h2)
      rw [if_pos (by omega), if_pos (by omega), hS, y3, y4, Int.sub_mul, Int.sub_mul] at z
      have t3 : tn (sN + 2) = tn sN * 10 * 10 := by rw [tn_1 (sN + 1), tn_1 sN]
      rw [z, t3]
      omega
    obtain ⟨Ir', J', Jr', v1, v2, v3, v4, v5, v6, v7, v8⟩ := ih (sN + 2) (tN + 1) (t + 1) w8' w9' wa' u7' u8' u9' ua' ub' uc' (uI Ir 86 40 (Ir 86 40 + 2)) J1 Jr1 (by omega) hk' (by omega) (by omega) (fun c k hc => by rw [uI_n _ _ hc]; exact hIr c k hc) s40 x3 y2 hR1 hS1
    rw [show sN + 2 + 2 * n = sN + 2 * (n + 1) from by omega] at v4 v8
    exact ⟨Ir', J', Jr', x1 _ _ v1, y1 _ _ v2, v3, v4, fun c hc q => by rw [v5 c hc q, x2 c hc q], v6, v7, v8⟩
/-- both spread, or neither does -/
theorem spr_23 {L : Nat} {xs : Nat → Int32} {d d' : Nat} {I Ir : Nat → Nat → Int32} {J Jr : Nat → Nat → Int64} {R Rr : Nat → Nat → Nat} (hG : aGd R) (hGr : aGd Rr) (h8 : R 0 8 = 24) {np nm nn : Nat} {l : List (Nat × Nat)} (hV : VR_23 np nm nn l I Ir) (hch : ∀ q, q < 16 → 0 ≤ (Ir 95 q).toInt ∧ (Ir 95 q).toInt ≤ 10) (a b t u z : Int32) :
    (xEv L xs (d + 4) 112 0 [.ref 0, .int a, .int b, .int t, .int u, .int z] [] (124, I, J, R) (some (.int 0)) (124, I, J, R) ∧ xEv L xs (d' + 2) 216 0 [.ref 86, .int a, .int b, .int t, .int u, .int z] [] (124, Ir, Jr, Rr) (some (.int 0)) (124, Ir, Jr, Rr)) ∨
    (∃ (I' Ir' : Nat → Nat → Int32) (J' Jr' : Nat → Nat → Int64) (un n : Nat), xEv L xs (d + 4) 112 0 [.ref 0, .int a, .int b, .int t, .int u, .int z] [] (124, I, J, R) (some (.int 1)) (124, I', J', R) ∧ xEv L xs (d' + 2) 216 0 [.ref 86, .int a, .int b, .int t, .int u, .int z] [] (124, Ir, Jr, Rr) (some (.int 1)) (124, Ir, Jr, Rr) ∧ xEv L xs (d' + 2) 217 0 [.ref 86, .int a, .int b, .int t, .int u, .int z, xmk, xmk, xmk, xmk, xmk, xmk, xmk] [] (124, Ir, Jr, Rr) none (124, Ir', Jr', Rr) ∧ (∀ c k, ¬ (c = 53 ∧ k = 1) → I' c k = I c k) ∧ (∀ c k, ¬ (c = 86 ∧ k = 40) → Ir' c k = Ir c k) ∧ (I' 53 1).toInt = un ∧ 1 ≤ un ∧ un ≤ 9 ∧ (Ir' 86 40).toInt = n ∧ n ≤ 128 ∧ n ≤ 16 * (un - 1) ∧ 1 ≤ np ∧ cG J' un ∧ rG Jr' ∧ ∀ p, p < np → cV J' un p = rV Jr' p * tn (16 * (un - 1) - n) ∧ rV Jr' p ≤ tn n) := by
  have hV0 := hV
  obtain ⟨⟨p1, p2, p3⟩, p4, p5, p6, ⟨q1, q2⟩, ⟨q3, q4⟩, ⟨q5, q6⟩, q7, q8, q9, ⟨q10, q11⟩, q12, -⟩ := hV
  have qx := qx_run (L := L) (xs := xs) (d := d') (I := Ir) (J := Jr) hGr q2 q6 q11 a b t u z
  rcases hn_run_23 (L := L) (xs := xs) (d := d + 3) (I := I) (J := J) hG q5 a with ⟨ha, xa⟩ | ⟨ha, xa⟩
  rotate_left
  · rcases qx with ⟨g, -⟩ | ⟨-, y⟩
    · exact absurd g.1 ha
    · exact Or.inl ⟨qv2_n_23 hG h8 xa, y⟩
  rcases hp_run_23 (L := L) (xs := xs) (d := d + 3) (I := I) (J := J) hG q1 b with ⟨hb, xb⟩ | ⟨hb, xb⟩
  rotate_left
  · rcases qx with ⟨g, -⟩ | ⟨-, y⟩
    · exact absurd g.2.1 hb
    · exact Or.inl ⟨qv2_p_23 hG h8 xa xb, y⟩
  by_cases t0 : t.toInt < 0
  · rcases qx with ⟨g, -⟩ | ⟨-, y⟩
    · exact absurd g.2.2.1 (by omega)
    · exact Or.inl ⟨qv2_t_23 hG h8 xa xb t0, y⟩
  by_cases tz : z.toInt < t.toInt
  · rcases qx with ⟨g, -⟩ | ⟨-, y⟩
    · exact absurd g.2.2.2.2.1 (by omega)
    · exact Or.inl ⟨qv2_z_23 hG h8 xa xb (by omega) tz, y⟩
  by_cases zs : z.toInt > (I 37 5).toInt
  · rcases qx with ⟨g, -⟩ | ⟨-, y⟩
    · exact absurd g.2.2.2.2.2 (by omega)
    · exact Or.inl ⟨qv2_s_23 hG h8 xa xb (by omega) (by omega) zs, y⟩
  by_cases u0 : u.toInt < 0
  · rcases qx with ⟨g, -⟩ | ⟨-, y⟩
    · exact absurd g.2.2.2.1.1 (by omega)
    · exact Or.inl ⟨qv2_u_23 hG h8 xa xb (by omega) (by omega) (by omega) u0, y⟩
  by_cases u10 : u.toInt > 10
  · rcases qx with ⟨g, -⟩ | ⟨-, y⟩
    · exact absurd g.2.2.2.1.2 (by omega)
    · exact Or.inl ⟨qv2_w_23 hG h8 xa xb (by omega) (by omega) (by omega) (by omega) u10, y⟩
  have y1 : xEv L xs (d' + 2) 216 0 [.ref 86, .int a, .int b, .int t, .int u, .int z] [] (124, Ir, Jr, Rr) (some (.int 1)) (124, Ir, Jr, Rr) := by
    rcases qx with ⟨-, y⟩ | ⟨g, -⟩
    · exact y
    · exact absurd ⟨ha, hb, by omega, ⟨by omega, by omega⟩, by omega, by omega⟩ g
  obtain ⟨aN, eaN⟩ := Int.eq_ofNat_of_zero_le ha.1
  obtain ⟨bN, ebN⟩ := Int.eq_ofNat_of_zero_le hb.1
  obtain ⟨tN, etN⟩ := Int.eq_ofNat_of_zero_le (show 0 ≤ t.toInt by omega)
  obtain ⟨zN, ezN⟩ := Int.eq_ofNat_of_zero_le (show 0 ≤ z.toInt by omega)
  have eca := clamp_s (i := a) ha.1
  have eka : a.toNatClampNeg = aN := by omega
  have xbar := at_run (L := L) (xs := xs) (d := d + 3) (h := (124, I, J, R)) (c := 35) (n := 4) (fun _ => rfl) (by decide) a
  rw [if_pos ⟨by omega, by omega⟩, eka] at xbar
  have ebar : I 35 aN = Ir 100 aN := (q9 aN (by omega)).2.2.2.2.1
  have xbar' : xEv L xs (d + 3) 39 0 [.ref 35, .int a] [] (124, I, J, R) (some (.int (Ir 100 a.toNatClampNeg))) (124, I, J, R) := by
    rw [eka, ← ebar]
    exact xbar
  have e2 : (2 : Int32).toInt = 2 := by decide
  have ezt : (z - t).toInt = z.toInt - t.toInt := i_sub (by omega) (by omega)
  have edg : (2 * (z - t)).toInt = 2 * (z.toInt - t.toInt) := by rw [i_mul (by rw [e2]; omega) (by rw [e2]; omega), e2, ezt]
  obtain ⟨I1, J1, un, s1, s2, s3, s4, s5, s6, s7, s8, s9, s10⟩ := qs_run (L := L) (xs := xs) (d := d + 1) (I := I) (J := J) hG (q := b) (dg := 2 * (z - t)) ebN (by omega) (by omega) (by omega)
  obtain ⟨Jr1, z1, z2, z3⟩ := qqc_run (L := L) (xs := xs) (d := d' + 1) (I := Ir) (J := Jr) hGr
  obtain ⟨k1, k2, k3⟩ := ix160 ebN (by omega)
  have e0L : (0 : Int64).toInt = 0 := by decide
  have e1L : (1 : Int64).toInt = 1 := by decide
  have at0 : ∀ p i, p < 14 → i < 16 → ((uL Jr1 108 (16 * bN) 1) 108 (16 * p + i)).toInt = if p = bN ∧ i = 0 then 1 else 0 := fun p i hp hi => by
    by_cases g : p = bN ∧ i = 0
    · rw [if_pos g, g.1, g.2, Nat.add_zero, uL_s, e1L]
    · rw [if_neg g, uL_n _ _ (by omega), z3 _ (by omega), e0L]
  have gr : rG (uL Jr1 108 (16 * bN) 1) := fun p hp i hi => by
    rw [at0 p i hp hi]
    split <;> omega
  have rv0 : ∀ p, p < 7 → rV (uL Jr1 108 (16 * bN) 1) p = if p = bN then 1 else 0 := fun p hp => by
    have sp := sT_p (e := 9) (f := rF (uL Jr1 108 (16 * bN) 1) p) 1 15
    have zz := sT_z (e := 9) (f := fun i => rF (uL Jr1 108 (16 * bN) 1) p (1 + i)) 0 15 (fun i _ hi => by
      show ((uL Jr1 108 (16 * bN) 1) 108 (16 * p + (1 + i))).toInt = 0
      rw [at0 _ _ (by omega) (by omega), if_neg (by omega)])
    rw [Nat.zero_add] at zz
    have ez : sT 9 (fun i => rF (uL Jr1 108 (16 * bN) 1) p (1 + i)) 0 = 0 := sT_0 _ _
    have f0 : sT 9 (rF (uL Jr1 108 (16 * bN) 1) p) 1 = if p = bN then 1 else 0 := by
      rw [sT_1]
      show ((uL Jr1 108 (16 * bN) 1) 108 (16 * p + 0)).toInt = _
      rw [at0 _ _ (by omega) (by omega)]
      by_cases g : p = bN
      · rw [if_pos ⟨g, rfl⟩, if_pos g]
      · rw [if_neg (fun h => g h.1), if_neg g]
    show sT 9 (rF (uL Jr1 108 (16 * bN) 1) p) (1 + 15) = _
    rw [sp, zz, ez, Int.mul_zero, Int.add_zero, f0]
  have start : ∀ p, p < np → cV J1 un p = rV (uL Jr1 108 (16 * bN) 1) p * tn (16 * (un - 1) - 0) := fun p hp => by
    rw [rv0 p (by omega), Nat.sub_zero]
    by_cases g : p = bN
    · rw [if_pos g, g, s9, Int.one_mul]
    · rw [if_neg g, s10 p (by omega) g, Int.zero_mul]
  have sum1 : ∀ n, n ≤ 7 → sT 0 (rV (uL Jr1 108 (16 * bN) 1)) n = if bN < n then 1 else 0 := by
    intro n
    induction n with
    | zero => intro _; rw [if_neg (by omega), sT_0]
    | succ n ih =>
      intro hn
      rw [s0_s, ih (by omega), rv0 n (by omega)]
      by_cases e : n = bN
      · rw [if_neg (by omega), if_pos e, if_pos (by omega)]
        rfl
      · rw [if_neg e, Int.add_zero]
        by_cases g : bN < n
        · rw [if_pos g, if_pos (by omega)]
        · rw [if_neg g, if_neg (by omega)]
  have sumT : sT 0 (rV (uL Jr1 108 (16 * bN) 1)) np = tn 0 := by rw [sum1 np p1, if_pos (by omega), tn_0]
  obtain ⟨Ir', J', Jr', v1, v2, v3, v4, v5, v6, v7, v8⟩ := qlw_23 (L := L) (xs := xs) (d := d + 1) (d' := d' + 1) hG hGr hV0 s2 hch (fr := b) (tm := t) (u := u) (z := z) (nw := a) (zN := zN) s4 s5 s6 ezN (by omega) (by omega) (by omega) ha.1 ha.2 (zN - tN) 0 tN t xmk xmk xmk xmk xmk xmk xmk xmk xmk (uI Ir 86 40 0) J1 (uL Jr1 108 (16 * bN) 1) (by omega) etN (by omega) (by omega) (fun c k hc => uI_n _ _ hc) (by rw [uI_s]; decide) s8 gr start sumT
  rw [Nat.zero_add] at v4 v8
  have runC := qw_s_23 hG s1 v1
  have runR : xEv L xs (d' + 2) 217 0 [.ref 86, .int a, .int b, .int t, .int u, .int z, xmk, xmk, xmk, xmk, xmk, xmk, xmk] [] (124, Ir, Jr, Rr) none (124, Ir', Jr', Rr) := qqw_s hGr z1 k1 k2 (by rw [k3]; exact v2)
  exact Or.inr ⟨I1, Ir', J', Jr', un, 2 * (zN - tN), qv2_y_23 hG h8 xa xb (by omega) (by omega) (by omega) (by omega) (by omega) xbar' runC, y1, runR, s2, v3, s4, s5, s6, v4, by omega, by omega, by omega, v6, v7, v8⟩
theorem whs_23 {L : Nat} {xs : Nat → Int32} {d d' : Nat} {I Ir : Nat → Nat → Int32} {J Jr : Nat → Nat → Int64} {R Rr : Nat → Nat → Nat} (hG : aGd R) (hGr : aGd Rr) (h8 : R 0 8 = 24) {np nm nn : Nat} {l : List (Nat × Nat)} (hV : VR_23 np nm nn l I Ir) (hch : ∀ q, q < 16 → 0 ≤ (Ir 95 q).toInt ∧ (Ir 95 q).toInt ≤ 10) (a b t u z w : Int32) : ∃ (r : Int32) (I' Ir' : Nat → Nat → Int32) (J' Jr' : Nat → Nat → Int64), xEv L xs (d + 5) 111 0 [.ref 0, .int a, .int b, .int t, .int u, .int z, .int w] [] (124, I, J, R) (some (.int r)) (124, I', J', R) ∧ xEv L xs (d' + 3) 215 0 [.ref 86, .int a, .int b, .int t, .int u, .int z, .int w] [] (124, Ir, Jr, Rr) (some (.int r)) (124, Ir', Jr', Rr) := by
  have hV0 := hV
  obtain ⟨⟨p1, p2, p3⟩, p4, p5, p6, ⟨q1, q2⟩, -⟩ := hV
  have sp := spr_23 (L := L) (xs := xs) (d := d) (d' := d') (J := J) (Jr := Jr) hG hGr h8 hV0 hch a b t u z
  have ip := ip_run (L := L) (xs := xs) (d := d' + 1) (I := Ir) (J := Jr) hGr q2 w
  rcases hp_run_23 (L := L) (xs := xs) (d := d + 4) (I := I) (J := J) hG q1 w with ⟨hw, xw⟩ | ⟨hw, xw⟩
  rotate_left
  · have yw : xEv L xs (d' + 2) 167 0 [.ref 86, .int w] [] (124, Ir, Jr, Rr) (some (.int 0)) (124, Ir, Jr, Rr) := by
      rcases ip with ⟨g, -⟩ | ⟨-, y⟩
      · exact absurd g hw
      · exact y
    rcases sp with ⟨-, y⟩ | ⟨I', Ir', J', Jr', un, n, -, y, -⟩
    · exact ⟨-2, _, _, _, _, qv3_p_23 hG h8 xw, qxw_0 hGr y⟩
    · exact ⟨-2, _, _, _, _, qv3_p_23 hG h8 xw, qxw_1 hGr y yw⟩
  have yw : xEv L xs (d' + 2) 167 0 [.ref 86, .int w] [] (124, Ir, Jr, Rr) (some (.int 1)) (124, Ir, Jr, Rr) := by
    rcases ip with ⟨-, y⟩ | ⟨g, -⟩
    · exact y
    · exact absurd hw g
  rcases sp with ⟨x, y⟩ | ⟨I', Ir', J', Jr', un, n, x, y, yr, f1, f2, s4, s5, s6, v4, n1, n2, n3, v6, v7, v8⟩
  · exact ⟨-2, _, _, _, _, qv3_s_23 hG h8 xw x, qxw_0 hGr y⟩
  obtain ⟨wN, ewN⟩ := Int.eq_ofNat_of_zero_le hw.1
  obtain ⟨w1', w2'⟩ := v8 wN (by omega)
  have eE : tn (16 * (un - 1)) = tn n * tn (16 * (un - 1) - n) := by rw [← tn_add]; congr 1; omega
  have tp := tn_pos (16 * (un - 1) - n)
  have cle : cV J' un wN ≤ tn (16 * (un - 1)) := by rw [w1', eE]; exact Int.mul_le_mul_of_nonneg_right w2' (Int.le_of_lt tp)
  obtain ⟨r1, o1, o2⟩ := qi_run (L := L) (xs := xs) (d := d + 4) (I := I') hG s5 s6 ewN (by omega) v6 cle
  obtain ⟨r2, Jr2, o3, o4, o5⟩ := qqi_run (L := L) (xs := xs) (d := d' + 1) hGr ewN (by omega) v4 n1 v7 w2'
  have er : r2 = r1 := Int32.toInt_inj.mp (by
    rw [o2, o5, w1', eE, Int.mul_assoc, Int.mul_comm (tn (16 * (un - 1) - n)) 1000000, ← Int.mul_assoc, Int.mul_ediv_mul_of_pos_left _ _ tp])
  subst er
  exact ⟨r2, _, _, _, _, qv3_y_23 hG h8 xw x o1, qxw_2 hGr y yw yr o3⟩
theorem aks_23 {L : Nat} {xs : Nat → Int32} {d d' : Nat} {I Ir : Nat → Nat → Int32} {J Jr : Nat → Nat → Int64} {R Rr : Nat → Nat → Nat} (hG : aGd R) (hGr : aGd Rr) (h8 : R 0 8 = 24) {np nm nn : Nat} {l : List (Nat × Nat)} (hV : VR_23 np nm nn l I Ir) (hch : ∀ q, q < 16 → 0 ≤ (Ir 95 q).toInt ∧ (Ir 95 q).toInt ≤ 10) (a b t u z : Int32) : ∃ (r : Int32) (I' Ir' : Nat → Nat → Int32) (J' Jr' : Nat → Nat → Int64), xEv L xs (d + 5) 114 0 [.ref 0, .int a, .int b, .int t, .int u, .int z, xmk, xmk] [] (124, I, J, R) (some (.int r)) (124, I', J', R) ∧ xEv L xs (d' + 3) 218 0 [.ref 86, .int a, .int b, .int t, .int u, .int z, xmk, xmk] [] (124, Ir, Jr, Rr) (some (.int r)) (124, Ir', Jr', Rr) := by
  have hV0 := hV
  obtain ⟨⟨p1, p2, p3⟩, p4, p5, p6, ⟨q1, q2⟩, -⟩ := hV
  rcases spr_23 (L := L) (xs := xs) (d := d) (d' := d') (J := J) (Jr := Jr) hG hGr h8 hV0 hch a b t u z with ⟨x, y⟩ | ⟨I', Ir', J', Jr', un, n, x, y, yr, f1, f2, s4, s5, s6, v4, n1, n2, n3, v6, v7, v8⟩
  · exact ⟨-2, _, _, _, _, qv4_n_23 hG x, qxa_0 hGr y⟩
  have np1 : (I' 23 14).toInt = np := by rw [f1 _ _ (by omega)]; exact q1
  have np2 : (Ir' 88 0).toInt = np := by rw [f2 _ _ (by omega)]; exact q2
  have tp := tn_pos (16 * (un - 1) - n)
  have lp : ∀ (f k mN : Nat) (m q : Int32), k + f = np → q.toInt = k → m.toInt = mN → mN < np → ∃ r : Int32, xEv L xs (d + 5) 114 23 [.ref 0, .int a, .int b, .int t, .int u, .int z, .int m, .int q] [] (124, I', J', R) (some (.int r)) (124, I', J', R) ∧ xEv L xs (d' + 3) 218 34 [.ref 86, .int a, .int b, .int t, .int u, .int z, .int m, .int q] [] (124, Ir', Jr', Rr) (some (.int r)) (124, Ir', Jr', Rr) := by
    intro f
    induction f with
    | zero =>
      intro k mN m q hk eq em hm
      exact ⟨m, qv4_e_23 hG h8 (by omega), qxa_e hGr (by omega)⟩
    | succ f ih =>
      intro k mN m q hk eq em hm
      have eq' : (q + 1).toInt = (k + 1 : Nat) := by rw [i_add1 (by omega)]; omega
      obtain ⟨o, x1, x2⟩ := qc_run (L := L) (xs := xs) (d := d + 3) (I := I') (J := J') hG s4 s5 s6 eq em (by omega) (by omega) (v6.1 k (by omega)) (v6.1 mN (by omega))
      obtain ⟨o', y1, y2⟩ := qqk_run (L := L) (xs := xs) (d := d' + 2) (I := Ir') (J := Jr') hGr eq em (by omega) (by omega) (v7 k (by omega)) (v7 mN (by omega))
      have lt : cV J' un mN < cV J' un k ↔ rV Jr' mN < rV Jr' k := by
        rw [(v8 mN hm).1, (v8 k (by omega)).1]
        exact ⟨fun h => Int.lt_of_mul_lt_mul_right h (Int.le_of_lt tp), fun h => Int.mul_lt_mul_of_pos_right h tp⟩
      by_cases g : rV Jr' mN < rV Jr' k
      · have g' := lt.mpr g
        obtain ⟨r, z1, z2⟩ := ih (k + 1) k q (q + 1) (by omega) eq' eq (by omega)
        exact ⟨r, qv4_y_23 hG h8 (by omega) x1 (by omega) z1, qxa_y hGr (by omega) y1 (by omega) z2⟩
      · have g' := mt lt.mp g
        obtain ⟨r, z1, z2⟩ := ih (k + 1) mN m (q + 1) (by omega) eq' em hm
        exact ⟨r, qv4_k_23 hG h8 (by omega) x1 (by omega) z1, qxa_n hGr (by omega) y1 (by omega) z2⟩
  obtain ⟨r, z1, z2⟩ := lp (np - 1) 1 0 0 1 (by omega) (by decide) (by decide) (by omega)
  exact ⟨r, _, _, _, _, qv4_s_23 hG x z1, qxa_s hGr y yr z2⟩
