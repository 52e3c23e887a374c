set_option maxRecDepth 20000 in
theorem vc_3 {L : Nat} {xs : Nat → Int32} {d : Nat} {I : Nat → Nat → Int32} {J : Nat → Nat → Int64} {R : Nat → Nat → Nat} (hG : aGd R)  : xEv L xs d 19 0 [.ref 3] [] (124, I, J, R) none (124, (uI (uI (uI (uI (uI I 3 14 0) 3 15 0) 3 16 0) 3 17 0) 17 5 0), J, R) := by
  refine ev_go 13 (pc1 := 21) (lv1 := [.ref 3]) (st1 := [.ref 3]) (h1 := (124, (uI (uI (uI (uI I 3 14 0) 3 15 0) 3 16 0) 3 17 0), J, R)) rfl ?_
  refine ev_gf (c := 3) (t := 17) (X := R 3 13) rfl rfl (fun _ => rfl) rfl (hG 3 13 17 rfl rfl) ?_
  refine ev_go 2 (pc1 := 28) (lv1 := [.ref 3]) (st1 := []) (h1 := (124, (uI (uI (uI (uI (uI I 3 14 0) 3 15 0) 3 16 0) 3 17 0) 17 5 0), J, R)) rfl ?_
  exact ev_ret rfl rfl
set_option maxRecDepth 20000 in
theorem vc_23 {L : Nat} {xs : Nat → Int32} {d : Nat} {I : Nat → Nat → Int32} {J : Nat → Nat → Int64} {R : Nat → Nat → Nat} (hG : aGd R)  : xEv L xs d 19 0 [.ref 23] [] (124, I, J, R) none (124, (uI (uI (uI (uI (uI I 23 14 0) 23 15 0) 23 16 0) 23 17 0) 37 5 0), J, R) := by
  refine ev_go 13 (pc1 := 21) (lv1 := [.ref 23]) (st1 := [.ref 23]) (h1 := (124, (uI (uI (uI (uI I 23 14 0) 23 15 0) 23 16 0) 23 17 0), J, R)) rfl ?_
  refine ev_gf (c := 23) (t := 37) (X := R 23 13) rfl rfl (fun _ => rfl) rfl (hG 23 13 37 rfl rfl) ?_
  refine ev_go 2 (pc1 := 28) (lv1 := [.ref 23]) (st1 := []) (h1 := (124, (uI (uI (uI (uI (uI I 23 14 0) 23 15 0) 23 16 0) 23 17 0) 37 5 0), J, R)) rfl ?_
  exact ev_ret rfl rfl
set_option maxRecDepth 20000 in
theorem tr_0 {L : Nat} {xs : Nat → Int32} {d : Nat} {I : Nat → Nat → Int32} {J : Nat → Nat → Int64} {R : Nat → Nat → Nat} {I1 : Nat → Nat → Int32} {J1 : Nat → Nat → Int64} (hG : aGd R) (c1 : xEv L xs d 21 0 [.ref 1] [] (124, (uI I 1 2 0), J, R) none (124, I1, J1, R)) : xEv L xs (d + 1) 20 0 [.ref 1] [] (124, I, J, R) none (124, I1, J1, R) := by
  refine ev_go 4 (pc1 := 6) (lv1 := [.ref 1]) (st1 := [.ref 1]) (h1 := (124, (uI I 1 2 0), J, R)) rfl ?_
  refine ev_call (v1 := none) (h1 := (124, I1, J1, R)) rfl rfl c1 ?_
  exact ev_ret rfl rfl
set_option maxRecDepth 20000 in
theorem rb0_3 {L : Nat} {xs : Nat → Int32} {d : Nat} {I : Nat → Nat → Int32} {J : Nat → Nat → Int64} {R : Nat → Nat → Nat} (hG : aGd R)  {v : Option Value} {h' : xH} (hk : xEv L xs d 18 5 [.ref 43, .ref 3, xmk] [] (124, I, J, (uR R 43 1 4)) v h') : xEv L xs d 18 0 [.ref 43, .ref 3, xmk] [] (124, I, J, R) v h' := by
  refine ev_go 3 (pc1 := 5) (lv1 := [.ref 43, .ref 3, xmk]) (st1 := []) (h1 := (124, I, J, (uR R 43 1 4))) rfl ?_
  exact hk
set_option maxRecDepth 20000 in
theorem rb1_3 {L : Nat} {xs : Nat → Int32} {d : Nat} {I : Nat → Nat → Int32} {J : Nat → Nat → Int64} {R : Nat → Nat → Nat} {I1 : Nat → Nat → Int32} {J1 : Nat → Nat → Int64} (hG : aGd R) (c1 : xEv L xs d 19 0 [.ref 3] [] (124, I, J, R) none (124, (uI (uI (uI (uI (uI I 3 14 0) 3 15 0) 3 16 0) 3 17 0) 17 5 0), J, R)) (c2 : xEv L xs d 20 0 [.ref 1] [] (124, (uI (uI (uI (uI (uI (uI (uI I 3 14 0) 3 15 0) 3 16 0) 3 17 0) 17 5 0) 43 2 0) 43 3 (-1)), J, R) none (124, I1, J1, R)) {v : Option Value} {h' : xH} (hk : xEv L xs (d + 1) 18 28 [.ref 43, .ref 3, .int 0] [] (124, I1, J1, R) v h') : xEv L xs (d + 1) 18 5 [.ref 43, .ref 3, xmk] [] (124, I, J, R) v h' := by
  refine ev_go 1 (pc1 := 6) (lv1 := [.ref 43, .ref 3, xmk]) (st1 := [.ref 3]) (h1 := (124, I, J, R)) rfl ?_
  refine ev_call (v1 := none) (h1 := (124, (uI (uI (uI (uI (uI I 3 14 0) 3 15 0) 3 16 0) 3 17 0) 17 5 0), J, R)) rfl rfl c1 ?_
  refine ev_go 7 (pc1 := 20) (lv1 := [.ref 43, .ref 3, xmk]) (st1 := [.ref 43]) (h1 := (124, (uI (uI (uI (uI (uI (uI (uI I 3 14 0) 3 15 0) 3 16 0) 3 17 0) 17 5 0) 43 2 0) 43 3 (-1)), J, R)) rfl ?_
  refine ev_gf (c := 43) (t := 1) (X := R 43 0) rfl rfl (fun _ => rfl) rfl (hG 43 0 1 rfl rfl) ?_
  refine ev_call (v1 := none) (h1 := (124, I1, J1, R)) rfl rfl c2 ?_
  refine ev_go 2 (pc1 := 28) (lv1 := [.ref 43, .ref 3, .int 0]) (st1 := []) (h1 := (124, I1, J1, R)) rfl ?_
  exact hk
set_option maxRecDepth 20000 in
theorem rb0_23 {L : Nat} {xs : Nat → Int32} {d : Nat} {I : Nat → Nat → Int32} {J : Nat → Nat → Int64} {R : Nat → Nat → Nat} (hG : aGd R)  {v : Option Value} {h' : xH} (hk : xEv L xs d 18 5 [.ref 43, .ref 23, xmk] [] (124, I, J, (uR R 43 1 24)) v h') : xEv L xs d 18 0 [.ref 43, .ref 23, xmk] [] (124, I, J, R) v h' := by
  refine ev_go 3 (pc1 := 5) (lv1 := [.ref 43, .ref 23, xmk]) (st1 := []) (h1 := (124, I, J, (uR R 43 1 24))) rfl ?_
  exact hk
set_option maxRecDepth 20000 in
theorem rb1_23 {L : Nat} {xs : Nat → Int32} {d : Nat} {I : Nat → Nat → Int32} {J : Nat → Nat → Int64} {R : Nat → Nat → Nat} {I1 : Nat → Nat → Int32} {J1 : Nat → Nat → Int64} (hG : aGd R) (c1 : xEv L xs d 19 0 [.ref 23] [] (124, I, J, R) none (124, (uI (uI (uI (uI (uI I 23 14 0) 23 15 0) 23 16 0) 23 17 0) 37 5 0), J, R)) (c2 : xEv L xs d 20 0 [.ref 1] [] (124, (uI (uI (uI (uI (uI (uI (uI I 23 14 0) 23 15 0) 23 16 0) 23 17 0) 37 5 0) 43 2 0) 43 3 (-1)), J, R) none (124, I1, J1, R)) {v : Option Value} {h' : xH} (hk : xEv L xs (d + 1) 18 28 [.ref 43, .ref 23, .int 0] [] (124, I1, J1, R) v h') : xEv L xs (d + 1) 18 5 [.ref 43, .ref 23, xmk] [] (124, I, J, R) v h' := by
  refine ev_go 1 (pc1 := 6) (lv1 := [.ref 43, .ref 23, xmk]) (st1 := [.ref 23]) (h1 := (124, I, J, R)) rfl ?_
  refine ev_call (v1 := none) (h1 := (124, (uI (uI (uI (uI (uI I 23 14 0) 23 15 0) 23 16 0) 23 17 0) 37 5 0), J, R)) rfl rfl c1 ?_
  refine ev_go 7 (pc1 := 20) (lv1 := [.ref 43, .ref 23, xmk]) (st1 := [.ref 43]) (h1 := (124, (uI (uI (uI (uI (uI (uI (uI I 23 14 0) 23 15 0) 23 16 0) 23 17 0) 37 5 0) 43 2 0) 43 3 (-1)), J, R)) rfl ?_
  refine ev_gf (c := 43) (t := 1) (X := R 43 0) rfl rfl (fun _ => rfl) rfl (hG 43 0 1 rfl rfl) ?_
  refine ev_call (v1 := none) (h1 := (124, I1, J1, R)) rfl rfl c2 ?_
  refine ev_go 2 (pc1 := 28) (lv1 := [.ref 43, .ref 23, .int 0]) (st1 := []) (h1 := (124, I1, J1, R)) rfl ?_
  exact hk
set_option maxRecDepth 20000 in
theorem tt_0 {L : Nat} {xs : Nat → Int32} {d : Nat} {I : Nat → Nat → Int32} {J : Nat → Nat → Int64} {R : Nat → Nat → Nat} {I1 : Nat → Nat → Int32} {J1 : Nat → Nat → Int64} (hG : aGd R) (c1 : xEv L xs d 150 0 [.ref 86, xmk, xmk, xmk] [] (124, (uI (uI (uI I 86 2 (I 86 1)) 86 1 0) 86 6 0), J, R) none (124, I1, J1, R)) : xEv L xs (d + 1) 149 0 [.ref 86] [] (124, I, J, R) none (124, I1, J1, R) := by
  refine ev_go 11 (pc1 := 19) (lv1 := [.ref 86]) (st1 := [.ref 86]) (h1 := (124, (uI (uI (uI I 86 2 (I 86 1)) 86 1 0) 86 6 0), J, R)) rfl ?_
  refine ev_call (v1 := none) (h1 := (124, I1, J1, R)) rfl rfl c1 ?_
  exact ev_ret rfl rfl
set_option maxRecDepth 20000 in
theorem vb_0 {L : Nat} {xs : Nat → Int32} {d : Nat} {I : Nat → Nat → Int32} {J : Nat → Nat → Int64} {R : Nat → Nat → Nat} {I1 : Nat → Nat → Int32} {J1 : Nat → Nat → Int64} {I2 : Nat → Nat → Int32} {J2 : Nat → Nat → Int64} (hG : aGd R) (c1 : xEv L xs d 149 0 [.ref 86] [] (124, I, J, R) none (124, I1, J1, R)) (c2 : xEv L xs d 141 0 [.ref 86, xmk] [] (124, (uI (uI I1 86 8 0) 86 9 (-1)), J1, R) none (124, I2, J2, R)) {v : Option Value} {h' : xH} (hk : xEv L xs (d + 1) 148 20 [.ref 86, .int 0] [] (124, I2, J2, R) v h') : xEv L xs (d + 1) 148 0 [.ref 86, xmk] [] (124, I, J, R) v h' := by
  refine ev_go 1 (pc1 := 1) (lv1 := [.ref 86, xmk]) (st1 := [.ref 86]) (h1 := (124, I, J, R)) rfl ?_
  refine ev_call (v1 := none) (h1 := (124, I1, J1, R)) rfl rfl c1 ?_
  refine ev_go 7 (pc1 := 15) (lv1 := [.ref 86, xmk]) (st1 := [.ref 86]) (h1 := (124, (uI (uI I1 86 8 0) 86 9 (-1)), J1, R)) rfl ?_
  refine ev_call (v1 := none) (h1 := (124, I2, J2, R)) rfl rfl c2 ?_
  refine ev_go 2 (pc1 := 20) (lv1 := [.ref 86, .int 0]) (st1 := []) (h1 := (124, I2, J2, R)) rfl ?_
  exact hk
set_option maxRecDepth 20000 in
theorem bg_0 {L : Nat} {xs : Nat → Int32} {d : Nat} {I : Nat → Nat → Int32} {J : Nat → Nat → Int64} {R : Nat → Nat → Nat} (hG : aGd R)  : xEv L xs d 141 0 [.ref 86, xmk] [] (124, I, J, R) none (124, (uI (uI (uI I 88 3 0) 88 4 0) 88 5 0), J, R) := by
  refine ev_go 6 (pc1 := 8) (lv1 := [.ref 86, .int 0]) (st1 := [.ref 86]) (h1 := (124, I, J, R)) rfl ?_
  refine ev_gf (c := 86) (t := 88) (X := R 86 12) rfl rfl (fun _ => rfl) rfl (hG 86 12 88 rfl rfl) ?_
  refine ev_go 11 (pc1 := 8) (lv1 := [.ref 86, .int 1]) (st1 := [.ref 86]) (h1 := (124, (uI I 88 3 0), J, R)) rfl ?_
  refine ev_gf (c := 86) (t := 88) (X := R 86 12) rfl rfl (fun _ => rfl) rfl (hG 86 12 88 rfl rfl) ?_
  refine ev_go 11 (pc1 := 8) (lv1 := [.ref 86, .int 2]) (st1 := [.ref 86]) (h1 := (124, (uI (uI I 88 3 0) 88 4 0), J, R)) rfl ?_
  refine ev_gf (c := 86) (t := 88) (X := R 86 12) rfl rfl (fun _ => rfl) rfl (hG 86 12 88 rfl rfl) ?_
  refine ev_go 10 (pc1 := 22) (lv1 := [.ref 86, .int 3]) (st1 := []) (h1 := (124, (uI (uI (uI I 88 3 0) 88 4 0) 88 5 0), J, R)) rfl ?_
  exact ev_ret rfl rfl
theorem gd_43 {R : Nat → Nat → Nat} {x : Nat} (h : aGd R) : aGd (uR R 43 1 x) := by
  intro c k d h1 h2
  by_cases hc : c = 43 ∧ k = 1
  · obtain ⟨rfl, rfl⟩ := hc
    exact absurd (congrArg List.length h1) (show ¬ (aRef 43 1).length = 1 by decide)
  · have e : uR R 43 1 x c k = R c k := hR_ne (h := (124, fun _ _ => 0, fun _ _ => 0, R)) x hc
    rw [e]
    exact h c k d h1 h2
/-- both begin -/
theorem begin_3 {L : Nat} {xs : Nat → Int32} {d d' : Nat} {R Rr : Nat → Nat → Nat} {b : Nat → Int32} {n : Nat} {Ic Ir : Nat → Nat → Int32} {Jc Jr : Nat → Nat → Int64} (hG : aGd R) (hGr : aGd Rr) (h4 : 4 ≤ d' + 1) (hn9 : n ≤ 900) (hn : (Ic 1 1).toInt = n) (hm : (Ir 86 1).toInt = n) (hb : bX Ic n = b) (hb' : bM Ir n = b) : ∃ (Ic' Ir' : Nat → Nat → Int32) (Jc' Jr' : Nat → Nat → Int64) (st k e : Nat), (∀ vv h', xEv L xs (d + 7) 18 28 [.ref 43, .ref 3, .int 0] [] (124, Ic', Jc', uR R 43 1 4) vv h' → xEv L xs (d + 7) 18 0 [.ref 43, .ref 3, xmk] [] (124, Ic, Jc, R) vv h') ∧ (∀ vv h', xEv L xs (d' + 6) 148 20 [.ref 86, .int 0] [] (124, Ir', Jr', Rr) vv h' → xEv L xs (d' + 6) 148 0 [.ref 86, xmk] [] (124, Ir, Jr, Rr) vv h') ∧ Ic' 43 2 = 0 ∧ Ic' 43 3 = -1 ∧ Ir' 86 8 = 0 ∧ Ir' 86 9 = -1 ∧ Ic' 3 17 = 0 ∧ Ic' 17 5 = 0 ∧ Ir' 86 1 = 0 ∧ isTok b 0 st k e ∧ cTok b n Ic' Jc' st k e ∧ rTok b n Ir' Jr' st k e ∧ PR_3 b 0 0 0 Ic' Jc' Ir' Jr' ∧ FRr Ir Ir' ∧ FRc_3 Ic Ic' := by
  have hG1 : aGd (uR R 43 1 4) := gd_43 hG
  obtain ⟨st, k, e, Ic2, Jc2, c2, tk, o1, o2, o3, o4, o5, o6, o7, al⟩ := ad_run (L := L) (xs := xs) (d := d + 4) (R := uR R 43 1 4) hG1 hn9 (n := n) (p := 0) (I := uI (uI (uI (uI (uI (uI (uI (uI Ic 3 14 0) 3 15 0) 3 16 0) 3 17 0) 17 5 0) 43 2 0) 43 3 (-1)) 1 2 0) (J := Jc) hn rfl (by omega)
  have hbA : bX (uI (uI (uI (uI (uI (uI (uI (uI Ic 3 14 0) 3 15 0) 3 16 0) 3 17 0) 17 5 0) 43 2 0) 43 3 (-1)) 1 2 0) n = b := by rw [← hb]; rfl
  rw [hbA] at tk o7
  obtain ⟨st', k', e', Ir2, Jr2, d2, tk', rt, ar⟩ := sk_run (L := L) (xs := xs) (d := d' + 2) (R := Rr) (b := b) (n := n) (p := 0) (I := uI (uI (uI Ir 86 2 (Ir 86 1)) 86 1 0) 86 6 0) (J := Jr) hGr (by omega) hn9 hm rfl (by omega) (by rw [← hb']; rfl)
  obtain ⟨t1, t2, t3⟩ := isTok_u tk' tk
  subst t1
  subst t2
  subst t3
  have rt' : rTok b n (uI (uI (uI (uI (uI Ir2 86 8 0) 86 9 (-1)) 88 3 0) 88 4 0) 88 5 0) Jr2 st' k' e' := by
    obtain ⟨g1, g2, g3, g4, g5, g6, g7, g8, g9, g10⟩ := rt
    exact ⟨g1, g2, g3, g4, g5, g6, g7, by rw [← g8]; rfl, g9, g10⟩
  refine ⟨Ic2, _, Jc2, _, st', k', e', fun vv h' h => rb0_3 hG (rb1_3 hG1 (vc_3 hG1) (tr_0 hG1 c2) h), fun vv h' h => vb_0 hGr (tt_0 hGr d2) (bg_0 hGr) h, ?_, ?_, rfl, rfl, ?_, ?_, ?_, tk, ⟨?_, o4, o5, o6, o7, by rw [alT_b al]; exact hbA, o2, o3⟩, rt', ⟨by omega, ⟨?_, rfl⟩, ⟨?_, rfl⟩, ⟨?_, rfl⟩, fun i h => absurd h (by omega), fun i h => absurd h (by omega), fun i h => absurd h (by omega), fun i h => absurd h (by omega), fun i h => absurd h (by omega), fun i h => absurd h (by omega), fun i h => absurd h (by omega)⟩, by intro c q t1 t2 t3 t4 t5; rw [uI_n _ _ (by omega), uI_n _ _ (by omega), uI_n _ _ (by omega), uI_n _ _ (by omega), uI_n _ _ (by omega), ar.1 c q (by omega), uI_n _ _ (by omega), uI_n _ _ (by omega), uI_n _ _ (by omega)], fun c q t1 t2 t3 => by rw [al.1 c q (by omega), uI_n _ _ (by omega), uI_n _ _ (by omega), uI_n _ _ (by omega), uI_n _ _ (by omega), uI_n _ _ (by omega), uI_n _ _ (by omega), uI_n _ _ (by omega), uI_n _ _ (by omega)]⟩
  · rw [al.1 43 2 (by omega)]; rfl
  · rw [al.1 43 3 (by omega)]; rfl
  · rw [al.1 3 17 (by omega)]; rfl
  · rw [al.1 17 5 (by omega)]; rfl
  · show Ir2 86 1 = 0
    rw [ar.1 86 1 (by omega)]; rfl
  · rw [al.1 1 1 (by omega)]; exact hn
  · rw [al.1 3 14 (by omega)]; rfl
  · rw [al.1 3 15 (by omega)]; rfl
  · rw [al.1 3 16 (by omega)]; rfl
/-- both begin -/
theorem begin_23 {L : Nat} {xs : Nat → Int32} {d d' : Nat} {R Rr : Nat → Nat → Nat} {b : Nat → Int32} {n : Nat} {Ic Ir : Nat → Nat → Int32} {Jc Jr : Nat → Nat → Int64} (hG : aGd R) (hGr : aGd Rr) (h4 : 4 ≤ d' + 1) (hn9 : n ≤ 900) (hn : (Ic 1 1).toInt = n) (hm : (Ir 86 1).toInt = n) (hb : bX Ic n = b) (hb' : bM Ir n = b) : ∃ (Ic' Ir' : Nat → Nat → Int32) (Jc' Jr' : Nat → Nat → Int64) (st k e : Nat), (∀ vv h', xEv L xs (d + 7) 18 28 [.ref 43, .ref 23, .int 0] [] (124, Ic', Jc', uR R 43 1 24) vv h' → xEv L xs (d + 7) 18 0 [.ref 43, .ref 23, xmk] [] (124, Ic, Jc, R) vv h') ∧ (∀ vv h', xEv L xs (d' + 6) 148 20 [.ref 86, .int 0] [] (124, Ir', Jr', Rr) vv h' → xEv L xs (d' + 6) 148 0 [.ref 86, xmk] [] (124, Ir, Jr, Rr) vv h') ∧ Ic' 43 2 = 0 ∧ Ic' 43 3 = -1 ∧ Ir' 86 8 = 0 ∧ Ir' 86 9 = -1 ∧ Ic' 23 17 = 0 ∧ Ic' 37 5 = 0 ∧ Ir' 86 1 = 0 ∧ isTok b 0 st k e ∧ cTok b n Ic' Jc' st k e ∧ rTok b n Ir' Jr' st k e ∧ PR_23 b 0 0 0 Ic' Jc' Ir' Jr' ∧ FRr Ir Ir' ∧ FRc_23 Ic Ic' := by
  have hG1 : aGd (uR R 43 1 24) := gd_43 hG
  obtain ⟨st, k, e, Ic2, Jc2, c2, tk, o1, o2, o3, o4, o5, o6, o7, al⟩ := ad_run (L := L) (xs := xs) (d := d + 4) (R := uR R 43 1 24) hG1 hn9 (n := n) (p := 0) (I := uI (uI (uI (uI (uI (uI (uI (uI Ic 23 14 0) 23 15 0) 23 16 0) 23 17 0) 37 5 0) 43 2 0) 43 3 (-1)) 1 2 0) (J := Jc) hn rfl (by omega)
  have hbA : bX (uI (uI (uI (uI (uI (uI (uI (uI Ic 23 14 0) 23 15 0) 23 16 0) 23 17 0) 37 5 0) 43 2 0) 43 3 (-1)) 1 2 0) n = b := by rw [← hb]; rfl
  rw [hbA] at tk o7
  obtain ⟨st', k', e', Ir2, Jr2, d2, tk', rt, ar⟩ := sk_run (L := L) (xs := xs) (d := d' + 2) (R := Rr) (b := b) (n := n) (p := 0) (I := uI (uI (uI Ir 86 2 (Ir 86 1)) 86 1 0) 86 6 0) (J := Jr) hGr (by omega) hn9 hm rfl (by omega) (by rw [← hb']; rfl)
  obtain ⟨t1, t2, t3⟩ := isTok_u tk' tk
  subst t1
  subst t2
  subst t3
  have rt' : rTok b n (uI (uI (uI (uI (uI Ir2 86 8 0) 86 9 (-1)) 88 3 0) 88 4 0) 88 5 0) Jr2 st' k' e' := by
    obtain ⟨g1, g2, g3, g4, g5, g6, g7, g8, g9, g10⟩ := rt
    exact ⟨g1, g2, g3, g4, g5, g6, g7, by rw [← g8]; rfl, g9, g10⟩
  refine ⟨Ic2, _, Jc2, _, st', k', e', fun vv h' h => rb0_23 hG (rb1_23 hG1 (vc_23 hG1) (tr_0 hG1 c2) h), fun vv h' h => vb_0 hGr (tt_0 hGr d2) (bg_0 hGr) h, ?_, ?_, rfl, rfl, ?_, ?_, ?_, tk, ⟨?_, o4, o5, o6, o7, by rw [alT_b al]; exact hbA, o2, o3⟩, rt', ⟨by omega, ⟨?_, rfl⟩, ⟨?_, rfl⟩, ⟨?_, rfl⟩, fun i h => absurd h (by omega), fun i h => absurd h (by omega), fun i h => absurd h (by omega), fun i h => absurd h (by omega), fun i h => absurd h (by omega), fun i h => absurd h (by omega), fun i h => absurd h (by omega)⟩, by intro c q t1 t2 t3 t4 t5; rw [uI_n _ _ (by omega), uI_n _ _ (by omega), uI_n _ _ (by omega), uI_n _ _ (by omega), uI_n _ _ (by omega), ar.1 c q (by omega), uI_n _ _ (by omega), uI_n _ _ (by omega), uI_n _ _ (by omega)], fun c q t1 t2 t3 => by rw [al.1 c q (by omega), uI_n _ _ (by omega), uI_n _ _ (by omega), uI_n _ _ (by omega), uI_n _ _ (by omega), uI_n _ _ (by omega), uI_n _ _ (by omega), uI_n _ _ (by omega), uI_n _ _ (by omega)]⟩
  · rw [al.1 43 2 (by omega)]; rfl
  · rw [al.1 43 3 (by omega)]; rfl
  · rw [al.1 23 17 (by omega)]; rfl
  · rw [al.1 37 5 (by omega)]; rfl
  · show Ir2 86 1 = 0
    rw [ar.1 86 1 (by omega)]; rfl
  · rw [al.1 1 1 (by omega)]; exact hn
  · rw [al.1 23 14 (by omega)]; rfl
  · rw [al.1 23 15 (by omega)]; rfl
  · rw [al.1 23 16 (by omega)]; rfl
