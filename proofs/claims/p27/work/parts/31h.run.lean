def uC {α : Type} (F : Nat → Nat → α) (a b n : Nat) : Nat → Nat → α := va_up F b (va_cpy (F a) (F b) 0 0 n)
theorem ev_pz {L : Nat} {xs : Nat → Int32} {d j pc : Nat} {lv st r : List Value} {h h' : xH} {v : Option Value} {k A B w c : Nat} {x : Int32} (hq : xins j pc = some (.putfield k, 3, A, B, w)) (hst : st = .int x :: .ref c :: r) (ho : ∀ z : Option xR, xobj h c A z = z) (ht : xty A B = .boolean) (hx : x = 0 ∨ x = 1) (hk : xEv L xs d j (pc + 3) lv r (xsetI h c B x) v h') : xEv L xs d j pc lv st h v h' := by
  subst hst
  refine ev_step hq ?_ hk
  show x1 3 3 (xobj h c A (match xput h (xty A B) c B (.int x) with
    | some h' => xgo (pc + 3) lv r h'
    | none => none)) = _
  rw [ho, ht]
  rcases hx with rfl | rfl <;> rfl
set_option maxRecDepth 20000 in
theorem cf_k0 {L : Nat} {xs : Nat → Int32} {d : Nat} {I : Nat → Nat → Int32} {J : Nat → Nat → Int64} {R : Nat → Nat → Nat} (hG : aGd R) (z1 : (I 66 4) = 0 ∨ (I 66 4) = 1) : xEv L xs (d + 1) 137 0 [.ref 71, .ref 66] [] (124, I, J, R) none (124, (uC (uC (uC (uC (uI (uI (uI I 71 4 (I 66 4)) 71 5 (I 66 5)) 71 6 (I 66 6)) 67 72 4) 68 73 4) 69 74 4) 70 75 4), (uL J 71 7 (J 66 7)), R) := by
  refine ev_go 3 (pc1 := 5) (lv1 := [.ref 71, .ref 66]) (st1 := [.int (I 66 4), .ref 71]) (h1 := (124, I, J, R)) rfl ?_
  refine ev_pz (c := 71) rfl rfl (fun _ => rfl) rfl z1 ?_
  refine ev_go 13 (pc1 := 33) (lv1 := [.ref 71, .ref 66]) (st1 := [.ref 66]) (h1 := (124, (uI (uI (uI I 71 4 (I 66 4)) 71 5 (I 66 5)) 71 6 (I 66 6)), (uL J 71 7 (J 66 7)), R)) rfl ?_
  refine ev_gf (c := 66) (t := 67) (X := R 66 0) rfl rfl (fun _ => rfl) rfl (hG 66 0 67 rfl rfl) ?_
  refine ev_go 2 (pc1 := 38) (lv1 := [.ref 71, .ref 66]) (st1 := [.ref 71, .int 0, .ref 67]) (h1 := (124, (uI (uI (uI I 71 4 (I 66 4)) 71 5 (I 66 5)) 71 6 (I 66 6)), (uL J 71 7 (J 66 7)), R)) rfl ?_
  refine ev_gf (c := 71) (t := 72) (X := R 71 0) rfl rfl (fun _ => rfl) rfl (hG 71 0 72 rfl rfl) ?_
  refine ev_go 2 (pc1 := 43) (lv1 := [.ref 71, .ref 66]) (st1 := [.int 4, .int 0, .ref 72, .int 0, .ref 67]) (h1 := (124, (uI (uI (uI I 71 4 (I 66 4)) 71 5 (I 66 5)) 71 6 (I 66 6)), (uL J 71 7 (J 66 7)), R)) rfl ?_
  refine ev_step (pc1 := 46) (lv1 := [.ref 71, .ref 66]) (st1 := []) (h1 := (124, (uC (uI (uI (uI I 71 4 (I 66 4)) 71 5 (I 66 5)) 71 6 (I 66 6)) 67 72 4), (uL J 71 7 (J 66 7)), R)) rfl rfl ?_
  refine ev_go 1 (pc1 := 47) (lv1 := [.ref 71, .ref 66]) (st1 := [.ref 66]) (h1 := (124, (uC (uI (uI (uI I 71 4 (I 66 4)) 71 5 (I 66 5)) 71 6 (I 66 6)) 67 72 4), (uL J 71 7 (J 66 7)), R)) rfl ?_
  refine ev_gf (c := 66) (t := 68) (X := R 66 1) rfl rfl (fun _ => rfl) rfl (hG 66 1 68 rfl rfl) ?_
  refine ev_go 2 (pc1 := 52) (lv1 := [.ref 71, .ref 66]) (st1 := [.ref 71, .int 0, .ref 68]) (h1 := (124, (uC (uI (uI (uI I 71 4 (I 66 4)) 71 5 (I 66 5)) 71 6 (I 66 6)) 67 72 4), (uL J 71 7 (J 66 7)), R)) rfl ?_
  refine ev_gf (c := 71) (t := 73) (X := R 71 1) rfl rfl (fun _ => rfl) rfl (hG 71 1 73 rfl rfl) ?_
  refine ev_go 2 (pc1 := 57) (lv1 := [.ref 71, .ref 66]) (st1 := [.int 4, .int 0, .ref 73, .int 0, .ref 68]) (h1 := (124, (uC (uI (uI (uI I 71 4 (I 66 4)) 71 5 (I 66 5)) 71 6 (I 66 6)) 67 72 4), (uL J 71 7 (J 66 7)), R)) rfl ?_
  refine ev_step (pc1 := 60) (lv1 := [.ref 71, .ref 66]) (st1 := []) (h1 := (124, (uC (uC (uI (uI (uI I 71 4 (I 66 4)) 71 5 (I 66 5)) 71 6 (I 66 6)) 67 72 4) 68 73 4), (uL J 71 7 (J 66 7)), R)) rfl rfl ?_
  refine ev_go 1 (pc1 := 61) (lv1 := [.ref 71, .ref 66]) (st1 := [.ref 66]) (h1 := (124, (uC (uC (uI (uI (uI I 71 4 (I 66 4)) 71 5 (I 66 5)) 71 6 (I 66 6)) 67 72 4) 68 73 4), (uL J 71 7 (J 66 7)), R)) rfl ?_
  refine ev_gf (c := 66) (t := 69) (X := R 66 2) rfl rfl (fun _ => rfl) rfl (hG 66 2 69 rfl rfl) ?_
  refine ev_go 2 (pc1 := 66) (lv1 := [.ref 71, .ref 66]) (st1 := [.ref 71, .int 0, .ref 69]) (h1 := (124, (uC (uC (uI (uI (uI I 71 4 (I 66 4)) 71 5 (I 66 5)) 71 6 (I 66 6)) 67 72 4) 68 73 4), (uL J 71 7 (J 66 7)), R)) rfl ?_
  refine ev_gf (c := 71) (t := 74) (X := R 71 2) rfl rfl (fun _ => rfl) rfl (hG 71 2 74 rfl rfl) ?_
  refine ev_go 2 (pc1 := 71) (lv1 := [.ref 71, .ref 66]) (st1 := [.int 4, .int 0, .ref 74, .int 0, .ref 69]) (h1 := (124, (uC (uC (uI (uI (uI I 71 4 (I 66 4)) 71 5 (I 66 5)) 71 6 (I 66 6)) 67 72 4) 68 73 4), (uL J 71 7 (J 66 7)), R)) rfl ?_
  refine ev_step (pc1 := 74) (lv1 := [.ref 71, .ref 66]) (st1 := []) (h1 := (124, (uC (uC (uC (uI (uI (uI I 71 4 (I 66 4)) 71 5 (I 66 5)) 71 6 (I 66 6)) 67 72 4) 68 73 4) 69 74 4), (uL J 71 7 (J 66 7)), R)) rfl rfl ?_
  refine ev_go 1 (pc1 := 75) (lv1 := [.ref 71, .ref 66]) (st1 := [.ref 66]) (h1 := (124, (uC (uC (uC (uI (uI (uI I 71 4 (I 66 4)) 71 5 (I 66 5)) 71 6 (I 66 6)) 67 72 4) 68 73 4) 69 74 4), (uL J 71 7 (J 66 7)), R)) rfl ?_
  refine ev_gf (c := 66) (t := 70) (X := R 66 3) rfl rfl (fun _ => rfl) rfl (hG 66 3 70 rfl rfl) ?_
  refine ev_go 2 (pc1 := 80) (lv1 := [.ref 71, .ref 66]) (st1 := [.ref 71, .int 0, .ref 70]) (h1 := (124, (uC (uC (uC (uI (uI (uI I 71 4 (I 66 4)) 71 5 (I 66 5)) 71 6 (I 66 6)) 67 72 4) 68 73 4) 69 74 4), (uL J 71 7 (J 66 7)), R)) rfl ?_
  refine ev_gf (c := 71) (t := 75) (X := R 71 3) rfl rfl (fun _ => rfl) rfl (hG 71 3 75 rfl rfl) ?_
  refine ev_go 2 (pc1 := 85) (lv1 := [.ref 71, .ref 66]) (st1 := [.int 4, .int 0, .ref 75, .int 0, .ref 70]) (h1 := (124, (uC (uC (uC (uI (uI (uI I 71 4 (I 66 4)) 71 5 (I 66 5)) 71 6 (I 66 6)) 67 72 4) 68 73 4) 69 74 4), (uL J 71 7 (J 66 7)), R)) rfl ?_
  refine ev_step (pc1 := 88) (lv1 := [.ref 71, .ref 66]) (st1 := []) (h1 := (124, (uC (uC (uC (uC (uI (uI (uI I 71 4 (I 66 4)) 71 5 (I 66 5)) 71 6 (I 66 6)) 67 72 4) 68 73 4) 69 74 4) 70 75 4), (uL J 71 7 (J 66 7)), R)) rfl rfl ?_
  exact ev_ret rfl rfl
set_option maxRecDepth 20000 in
theorem cf_t0 {L : Nat} {xs : Nat → Int32} {d : Nat} {I : Nat → Nat → Int32} {J : Nat → Nat → Int64} {R : Nat → Nat → Nat} (hG : aGd R) (z1 : (I 71 4) = 0 ∨ (I 71 4) = 1) : xEv L xs (d + 1) 137 0 [.ref 66, .ref 71] [] (124, I, J, R) none (124, (uC (uC (uC (uC (uI (uI (uI I 66 4 (I 71 4)) 66 5 (I 71 5)) 66 6 (I 71 6)) 72 67 4) 73 68 4) 74 69 4) 75 70 4), (uL J 66 7 (J 71 7)), R) := by
  refine ev_go 3 (pc1 := 5) (lv1 := [.ref 66, .ref 71]) (st1 := [.int (I 71 4), .ref 66]) (h1 := (124, I, J, R)) rfl ?_
  refine ev_pz (c := 66) rfl rfl (fun _ => rfl) rfl z1 ?_
  refine ev_go 13 (pc1 := 33) (lv1 := [.ref 66, .ref 71]) (st1 := [.ref 71]) (h1 := (124, (uI (uI (uI I 66 4 (I 71 4)) 66 5 (I 71 5)) 66 6 (I 71 6)), (uL J 66 7 (J 71 7)), R)) rfl ?_
  refine ev_gf (c := 71) (t := 72) (X := R 71 0) rfl rfl (fun _ => rfl) rfl (hG 71 0 72 rfl rfl) ?_
  refine ev_go 2 (pc1 := 38) (lv1 := [.ref 66, .ref 71]) (st1 := [.ref 66, .int 0, .ref 72]) (h1 := (124, (uI (uI (uI I 66 4 (I 71 4)) 66 5 (I 71 5)) 66 6 (I 71 6)), (uL J 66 7 (J 71 7)), R)) rfl ?_
  refine ev_gf (c := 66) (t := 67) (X := R 66 0) rfl rfl (fun _ => rfl) rfl (hG 66 0 67 rfl rfl) ?_
  refine ev_go 2 (pc1 := 43) (lv1 := [.ref 66, .ref 71]) (st1 := [.int 4, .int 0, .ref 67, .int 0, .ref 72]) (h1 := (124, (uI (uI (uI I 66 4 (I 71 4)) 66 5 (I 71 5)) 66 6 (I 71 6)), (uL J 66 7 (J 71 7)), R)) rfl ?_
  refine ev_step (pc1 := 46) (lv1 := [.ref 66, .ref 71]) (st1 := []) (h1 := (124, (uC (uI (uI (uI I 66 4 (I 71 4)) 66 5 (I 71 5)) 66 6 (I 71 6)) 72 67 4), (uL J 66 7 (J 71 7)), R)) rfl rfl ?_
  refine ev_go 1 (pc1 := 47) (lv1 := [.ref 66, .ref 71]) (st1 := [.ref 71]) (h1 := (124, (uC (uI (uI (uI I 66 4 (I 71 4)) 66 5 (I 71 5)) 66 6 (I 71 6)) 72 67 4), (uL J 66 7 (J 71 7)), R)) rfl ?_
  refine ev_gf (c := 71) (t := 73) (X := R 71 1) rfl rfl (fun _ => rfl) rfl (hG 71 1 73 rfl rfl) ?_
  refine ev_go 2 (pc1 := 52) (lv1 := [.ref 66, .ref 71]) (st1 := [.ref 66, .int 0, .ref 73]) (h1 := (124, (uC (uI (uI (uI I 66 4 (I 71 4)) 66 5 (I 71 5)) 66 6 (I 71 6)) 72 67 4), (uL J 66 7 (J 71 7)), R)) rfl ?_
  refine ev_gf (c := 66) (t := 68) (X := R 66 1) rfl rfl (fun _ => rfl) rfl (hG 66 1 68 rfl rfl) ?_
  refine ev_go 2 (pc1 := 57) (lv1 := [.ref 66, .ref 71]) (st1 := [.int 4, .int 0, .ref 68, .int 0, .ref 73]) (h1 := (124, (uC (uI (uI (uI I 66 4 (I 71 4)) 66 5 (I 71 5)) 66 6 (I 71 6)) 72 67 4), (uL J 66 7 (J 71 7)), R)) rfl ?_
  refine ev_step (pc1 := 60) (lv1 := [.ref 66, .ref 71]) (st1 := []) (h1 := (124, (uC (uC (uI (uI (uI I 66 4 (I 71 4)) 66 5 (I 71 5)) 66 6 (I 71 6)) 72 67 4) 73 68 4), (uL J 66 7 (J 71 7)), R)) rfl rfl ?_
  refine ev_go 1 (pc1 := 61) (lv1 := [.ref 66, .ref 71]) (st1 := [.ref 71]) (h1 := (124, (uC (uC (uI (uI (uI I 66 4 (I 71 4)) 66 5 (I 71 5)) 66 6 (I 71 6)) 72 67 4) 73 68 4), (uL J 66 7 (J 71 7)), R)) rfl ?_
  refine ev_gf (c := 71) (t := 74) (X := R 71 2) rfl rfl (fun _ => rfl) rfl (hG 71 2 74 rfl rfl) ?_
  refine ev_go 2 (pc1 := 66) (lv1 := [.ref 66, .ref 71]) (st1 := [.ref 66, .int 0, .ref 74]) (h1 := (124, (uC (uC (uI (uI (uI I 66 4 (I 71 4)) 66 5 (I 71 5)) 66 6 (I 71 6)) 72 67 4) 73 68 4), (uL J 66 7 (J 71 7)), R)) rfl ?_
  refine ev_gf (c := 66) (t := 69) (X := R 66 2) rfl rfl (fun _ => rfl) rfl (hG 66 2 69 rfl rfl) ?_
  refine ev_go 2 (pc1 := 71) (lv1 := [.ref 66, .ref 71]) (st1 := [.int 4, .int 0, .ref 69, .int 0, .ref 74]) (h1 := (124, (uC (uC (uI (uI (uI I 66 4 (I 71 4)) 66 5 (I 71 5)) 66 6 (I 71 6)) 72 67 4) 73 68 4), (uL J 66 7 (J 71 7)), R)) rfl ?_
  refine ev_step (pc1 := 74) (lv1 := [.ref 66, .ref 71]) (st1 := []) (h1 := (124, (uC (uC (uC (uI (uI (uI I 66 4 (I 71 4)) 66 5 (I 71 5)) 66 6 (I 71 6)) 72 67 4) 73 68 4) 74 69 4), (uL J 66 7 (J 71 7)), R)) rfl rfl ?_
  refine ev_go 1 (pc1 := 75) (lv1 := [.ref 66, .ref 71]) (st1 := [.ref 71]) (h1 := (124, (uC (uC (uC (uI (uI (uI I 66 4 (I 71 4)) 66 5 (I 71 5)) 66 6 (I 71 6)) 72 67 4) 73 68 4) 74 69 4), (uL J 66 7 (J 71 7)), R)) rfl ?_
  refine ev_gf (c := 71) (t := 75) (X := R 71 3) rfl rfl (fun _ => rfl) rfl (hG 71 3 75 rfl rfl) ?_
  refine ev_go 2 (pc1 := 80) (lv1 := [.ref 66, .ref 71]) (st1 := [.ref 66, .int 0, .ref 75]) (h1 := (124, (uC (uC (uC (uI (uI (uI I 66 4 (I 71 4)) 66 5 (I 71 5)) 66 6 (I 71 6)) 72 67 4) 73 68 4) 74 69 4), (uL J 66 7 (J 71 7)), R)) rfl ?_
  refine ev_gf (c := 66) (t := 70) (X := R 66 3) rfl rfl (fun _ => rfl) rfl (hG 66 3 70 rfl rfl) ?_
  refine ev_go 2 (pc1 := 85) (lv1 := [.ref 66, .ref 71]) (st1 := [.int 4, .int 0, .ref 70, .int 0, .ref 75]) (h1 := (124, (uC (uC (uC (uI (uI (uI I 66 4 (I 71 4)) 66 5 (I 71 5)) 66 6 (I 71 6)) 72 67 4) 73 68 4) 74 69 4), (uL J 66 7 (J 71 7)), R)) rfl ?_
  refine ev_step (pc1 := 88) (lv1 := [.ref 66, .ref 71]) (st1 := []) (h1 := (124, (uC (uC (uC (uC (uI (uI (uI I 66 4 (I 71 4)) 66 5 (I 71 5)) 66 6 (I 71 6)) 72 67 4) 73 68 4) 74 69 4) 75 70 4), (uL J 66 7 (J 71 7)), R)) rfl rfl ?_
  exact ev_ret rfl rfl
set_option maxRecDepth 20000 in
theorem sA_0 {L : Nat} {xs : Nat → Int32} {d : Nat} {I : Nat → Nat → Int32} {J : Nat → Nat → Int64} {R : Nat → Nat → Nat} (hG : aGd R)  : xEv L xs (d + 1) 136 0 [.ref 63, .int 0] [] (124, I, J, R) (some (.ref 71)) (124, I, J, R) := by
  refine ev_go 3 (pc1 := 5) (lv1 := [.ref 63, .int 0]) (st1 := [.ref 63]) (h1 := (124, I, J, R)) rfl ?_
  refine ev_gf (c := 63) (t := 71) (X := R 63 4) rfl rfl (fun _ => rfl) rfl (hG 63 4 71 rfl rfl) ?_
  refine ev_go 1 (pc1 := 27) (lv1 := [.ref 63, .int 0]) (st1 := [.ref 71]) (h1 := (124, I, J, R)) rfl ?_
  exact ev_ret rfl rfl
set_option maxRecDepth 20000 in
theorem cf_k1 {L : Nat} {xs : Nat → Int32} {d : Nat} {I : Nat → Nat → Int32} {J : Nat → Nat → Int64} {R : Nat → Nat → Nat} (hG : aGd R) (z1 : (I 66 4) = 0 ∨ (I 66 4) = 1) : xEv L xs (d + 1) 137 0 [.ref 76, .ref 66] [] (124, I, J, R) none (124, (uC (uC (uC (uC (uI (uI (uI I 76 4 (I 66 4)) 76 5 (I 66 5)) 76 6 (I 66 6)) 67 77 4) 68 78 4) 69 79 4) 70 80 4), (uL J 76 7 (J 66 7)), R) := by
  refine ev_go 3 (pc1 := 5) (lv1 := [.ref 76, .ref 66]) (st1 := [.int (I 66 4), .ref 76]) (h1 := (124, I, J, R)) rfl ?_
  refine ev_pz (c := 76) rfl rfl (fun _ => rfl) rfl z1 ?_
  refine ev_go 13 (pc1 := 33) (lv1 := [.ref 76, .ref 66]) (st1 := [.ref 66]) (h1 := (124, (uI (uI (uI I 76 4 (I 66 4)) 76 5 (I 66 5)) 76 6 (I 66 6)), (uL J 76 7 (J 66 7)), R)) rfl ?_
  refine ev_gf (c := 66) (t := 67) (X := R 66 0) rfl rfl (fun _ => rfl) rfl (hG 66 0 67 rfl rfl) ?_
  refine ev_go 2 (pc1 := 38) (lv1 := [.ref 76, .ref 66]) (st1 := [.ref 76, .int 0, .ref 67]) (h1 := (124, (uI (uI (uI I 76 4 (I 66 4)) 76 5 (I 66 5)) 76 6 (I 66 6)), (uL J 76 7 (J 66 7)), R)) rfl ?_
  refine ev_gf (c := 76) (t := 77) (X := R 76 0) rfl rfl (fun _ => rfl) rfl (hG 76 0 77 rfl rfl) ?_
  refine ev_go 2 (pc1 := 43) (lv1 := [.ref 76, .ref 66]) (st1 := [.int 4, .int 0, .ref 77, .int 0, .ref 67]) (h1 := (124, (uI (uI (uI I 76 4 (I 66 4)) 76 5 (I 66 5)) 76 6 (I 66 6)), (uL J 76 7 (J 66 7)), R)) rfl ?_
  refine ev_step (pc1 := 46) (lv1 := [.ref 76, .ref 66]) (st1 := []) (h1 := (124, (uC (uI (uI (uI I 76 4 (I 66 4)) 76 5 (I 66 5)) 76 6 (I 66 6)) 67 77 4), (uL J 76 7 (J 66 7)), R)) rfl rfl ?_
  refine ev_go 1 (pc1 := 47) (lv1 := [.ref 76, .ref 66]) (st1 := [.ref 66]) (h1 := (124, (uC (uI (uI (uI I 76 4 (I 66 4)) 76 5 (I 66 5)) 76 6 (I 66 6)) 67 77 4), (uL J 76 7 (J 66 7)), R)) rfl ?_
  refine ev_gf (c := 66) (t := 68) (X := R 66 1) rfl rfl (fun _ => rfl) rfl (hG 66 1 68 rfl rfl) ?_
  refine ev_go 2 (pc1 := 52) (lv1 := [.ref 76, .ref 66]) (st1 := [.ref 76, .int 0, .ref 68]) (h1 := (124, (uC (uI (uI (uI I 76 4 (I 66 4)) 76 5 (I 66 5)) 76 6 (I 66 6)) 67 77 4), (uL J 76 7 (J 66 7)), R)) rfl ?_
  refine ev_gf (c := 76) (t := 78) (X := R 76 1) rfl rfl (fun _ => rfl) rfl (hG 76 1 78 rfl rfl) ?_
  refine ev_go 2 (pc1 := 57) (lv1 := [.ref 76, .ref 66]) (st1 := [.int 4, .int 0, .ref 78, .int 0, .ref 68]) (h1 := (124, (uC (uI (uI (uI I 76 4 (I 66 4)) 76 5 (I 66 5)) 76 6 (I 66 6)) 67 77 4), (uL J 76 7 (J 66 7)), R)) rfl ?_
  refine ev_step (pc1 := 60) (lv1 := [.ref 76, .ref 66]) (st1 := []) (h1 := (124, (uC (uC (uI (uI (uI I 76 4 (I 66 4)) 76 5 (I 66 5)) 76 6 (I 66 6)) 67 77 4) 68 78 4), (uL J 76 7 (J 66 7)), R)) rfl rfl ?_
  refine ev_go 1 (pc1 := 61) (lv1 := [.ref 76, .ref 66]) (st1 := [.ref 66]) (h1 := (124, (uC (uC (uI (uI (uI I 76 4 (I 66 4)) 76 5 (I 66 5)) 76 6 (I 66 6)) 67 77 4) 68 78 4), (uL J 76 7 (J 66 7)), R)) rfl ?_
  refine ev_gf (c := 66) (t := 69) (X := R 66 2) rfl rfl (fun _ => rfl) rfl (hG 66 2 69 rfl rfl) ?_
  refine ev_go 2 (pc1 := 66) (lv1 := [.ref 76, .ref 66]) (st1 := [.ref 76, .int 0, .ref 69]) (h1 := (124, (uC (uC (uI (uI (uI I 76 4 (I 66 4)) 76 5 (I 66 5)) 76 6 (I 66 6)) 67 77 4) 68 78 4), (uL J 76 7 (J 66 7)), R)) rfl ?_
  refine ev_gf (c := 76) (t := 79) (X := R 76 2) rfl rfl (fun _ => rfl) rfl (hG 76 2 79 rfl rfl) ?_
  refine ev_go 2 (pc1 := 71) (lv1 := [.ref 76, .ref 66]) (st1 := [.int 4, .int 0, .ref 79, .int 0, .ref 69]) (h1 := (124, (uC (uC (uI (uI (uI I 76 4 (I 66 4)) 76 5 (I 66 5)) 76 6 (I 66 6)) 67 77 4) 68 78 4), (uL J 76 7 (J 66 7)), R)) rfl ?_
  refine ev_step (pc1 := 74) (lv1 := [.ref 76, .ref 66]) (st1 := []) (h1 := (124, (uC (uC (uC (uI (uI (uI I 76 4 (I 66 4)) 76 5 (I 66 5)) 76 6 (I 66 6)) 67 77 4) 68 78 4) 69 79 4), (uL J 76 7 (J 66 7)), R)) rfl rfl ?_
  refine ev_go 1 (pc1 := 75) (lv1 := [.ref 76, .ref 66]) (st1 := [.ref 66]) (h1 := (124, (uC (uC (uC (uI (uI (uI I 76 4 (I 66 4)) 76 5 (I 66 5)) 76 6 (I 66 6)) 67 77 4) 68 78 4) 69 79 4), (uL J 76 7 (J 66 7)), R)) rfl ?_
  refine ev_gf (c := 66) (t := 70) (X := R 66 3) rfl rfl (fun _ => rfl) rfl (hG 66 3 70 rfl rfl) ?_
  refine ev_go 2 (pc1 := 80) (lv1 := [.ref 76, .ref 66]) (st1 := [.ref 76, .int 0, .ref 70]) (h1 := (124, (uC (uC (uC (uI (uI (uI I 76 4 (I 66 4)) 76 5 (I 66 5)) 76 6 (I 66 6)) 67 77 4) 68 78 4) 69 79 4), (uL J 76 7 (J 66 7)), R)) rfl ?_
  refine ev_gf (c := 76) (t := 80) (X := R 76 3) rfl rfl (fun _ => rfl) rfl (hG 76 3 80 rfl rfl) ?_
  refine ev_go 2 (pc1 := 85) (lv1 := [.ref 76, .ref 66]) (st1 := [.int 4, .int 0, .ref 80, .int 0, .ref 70]) (h1 := (124, (uC (uC (uC (uI (uI (uI I 76 4 (I 66 4)) 76 5 (I 66 5)) 76 6 (I 66 6)) 67 77 4) 68 78 4) 69 79 4), (uL J 76 7 (J 66 7)), R)) rfl ?_
  refine ev_step (pc1 := 88) (lv1 := [.ref 76, .ref 66]) (st1 := []) (h1 := (124, (uC (uC (uC (uC (uI (uI (uI I 76 4 (I 66 4)) 76 5 (I 66 5)) 76 6 (I 66 6)) 67 77 4) 68 78 4) 69 79 4) 70 80 4), (uL J 76 7 (J 66 7)), R)) rfl rfl ?_
  exact ev_ret rfl rfl
set_option maxRecDepth 20000 in
theorem cf_t1 {L : Nat} {xs : Nat → Int32} {d : Nat} {I : Nat → Nat → Int32} {J : Nat → Nat → Int64} {R : Nat → Nat → Nat} (hG : aGd R) (z1 : (I 76 4) = 0 ∨ (I 76 4) = 1) : xEv L xs (d + 1) 137 0 [.ref 66, .ref 76] [] (124, I, J, R) none (124, (uC (uC (uC (uC (uI (uI (uI I 66 4 (I 76 4)) 66 5 (I 76 5)) 66 6 (I 76 6)) 77 67 4) 78 68 4) 79 69 4) 80 70 4), (uL J 66 7 (J 76 7)), R) := by
  refine ev_go 3 (pc1 := 5) (lv1 := [.ref 66, .ref 76]) (st1 := [.int (I 76 4), .ref 66]) (h1 := (124, I, J, R)) rfl ?_
  refine ev_pz (c := 66) rfl rfl (fun _ => rfl) rfl z1 ?_
  refine ev_go 13 (pc1 := 33) (lv1 := [.ref 66, .ref 76]) (st1 := [.ref 76]) (h1 := (124, (uI (uI (uI I 66 4 (I 76 4)) 66 5 (I 76 5)) 66 6 (I 76 6)), (uL J 66 7 (J 76 7)), R)) rfl ?_
  refine ev_gf (c := 76) (t := 77) (X := R 76 0) rfl rfl (fun _ => rfl) rfl (hG 76 0 77 rfl rfl) ?_
  refine ev_go 2 (pc1 := 38) (lv1 := [.ref 66, .ref 76]) (st1 := [.ref 66, .int 0, .ref 77]) (h1 := (124, (uI (uI (uI I 66 4 (I 76 4)) 66 5 (I 76 5)) 66 6 (I 76 6)), (uL J 66 7 (J 76 7)), R)) rfl ?_
  refine ev_gf (c := 66) (t := 67) (X := R 66 0) rfl rfl (fun _ => rfl) rfl (hG 66 0 67 rfl rfl) ?_
  refine ev_go 2 (pc1 := 43) (lv1 := [.ref 66, .ref 76]) (st1 := [.int 4, .int 0, .ref 67, .int 0, .ref 77]) (h1 := (124, (uI (uI (uI I 66 4 (I 76 4)) 66 5 (I 76 5)) 66 6 (I 76 6)), (uL J 66 7 (J 76 7)), R)) rfl ?_
  refine ev_step (pc1 := 46) (lv1 := [.ref 66, .ref 76]) (st1 := []) (h1 := (124, (uC (uI (uI (uI I 66 4 (I 76 4)) 66 5 (I 76 5)) 66 6 (I 76 6)) 77 67 4), (uL J 66 7 (J 76 7)), R)) rfl rfl ?_
  refine ev_go 1 (pc1 := 47) (lv1 := [.ref 66, .ref 76]) (st1 := [.ref 76]) (h1 := (124, (uC (uI (uI (uI I 66 4 (I 76 4)) 66 5 (I 76 5)) 66 6 (I 76 6)) 77 67 4), (uL J 66 7 (J 76 7)), R)) rfl ?_
  refine ev_gf (c := 76) (t := 78) (X := R 76 1) rfl rfl (fun _ => rfl) rfl (hG 76 1 78 rfl rfl) ?_
  refine ev_go 2 (pc1 := 52) (lv1 := [.ref 66, .ref 76]) (st1 := [.ref 66, .int 0, .ref 78]) (h1 := (124, (uC (uI (uI (uI I 66 4 (I 76 4)) 66 5 (I 76 5)) 66 6 (I 76 6)) 77 67 4), (uL J 66 7 (J 76 7)), R)) rfl ?_
  refine ev_gf (c := 66) (t := 68) (X := R 66 1) rfl rfl (fun _ => rfl) rfl (hG 66 1 68 rfl rfl) ?_
  refine ev_go 2 (pc1 := 57) (lv1 := [.ref 66, .ref 76]) (st1 := [.int 4, .int 0, .ref 68, .int 0, .ref 78]) (h1 := (124, (uC (uI (uI (uI I 66 4 (I 76 4)) 66 5 (I 76 5)) 66 6 (I 76 6)) 77 67 4), (uL J 66 7 (J 76 7)), R)) rfl ?_
  refine ev_step (pc1 := 60) (lv1 := [.ref 66, .ref 76]) (st1 := []) (h1 := (124, (uC (uC (uI (uI (uI I 66 4 (I 76 4)) 66 5 (I 76 5)) 66 6 (I 76 6)) 77 67 4) 78 68 4), (uL J 66 7 (J 76 7)), R)) rfl rfl ?_
  refine ev_go 1 (pc1 := 61) (lv1 := [.ref 66, .ref 76]) (st1 := [.ref 76]) (h1 := (124, (uC (uC (uI (uI (uI I 66 4 (I 76 4)) 66 5 (I 76 5)) 66 6 (I 76 6)) 77 67 4) 78 68 4), (uL J 66 7 (J 76 7)), R)) rfl ?_
  refine ev_gf (c := 76) (t := 79) (X := R 76 2) rfl rfl (fun _ => rfl) rfl (hG 76 2 79 rfl rfl) ?_
  refine ev_go 2 (pc1 := 66) (lv1 := [.ref 66, .ref 76]) (st1 := [.ref 66, .int 0, .ref 79]) (h1 := (124, (uC (uC (uI (uI (uI I 66 4 (I 76 4)) 66 5 (I 76 5)) 66 6 (I 76 6)) 77 67 4) 78 68 4), (uL J 66 7 (J 76 7)), R)) rfl ?_
  refine ev_gf (c := 66) (t := 69) (X := R 66 2) rfl rfl (fun _ => rfl) rfl (hG 66 2 69 rfl rfl) ?_
  refine ev_go 2 (pc1 := 71) (lv1 := [.ref 66, .ref 76]) (st1 := [.int 4, .int 0, .ref 69, .int 0, .ref 79]) (h1 := (124, (uC (uC (uI (uI (uI I 66 4 (I 76 4)) 66 5 (I 76 5)) 66 6 (I 76 6)) 77 67 4) 78 68 4), (uL J 66 7 (J 76 7)), R)) rfl ?_
  refine ev_step (pc1 := 74) (lv1 := [.ref 66, .ref 76]) (st1 := []) (h1 := (124, (uC (uC (uC (uI (uI (uI I 66 4 (I 76 4)) 66 5 (I 76 5)) 66 6 (I 76 6)) 77 67 4) 78 68 4) 79 69 4), (uL J 66 7 (J 76 7)), R)) rfl rfl ?_
  refine ev_go 1 (pc1 := 75) (lv1 := [.ref 66, .ref 76]) (st1 := [.ref 76]) (h1 := (124, (uC (uC (uC (uI (uI (uI I 66 4 (I 76 4)) 66 5 (I 76 5)) 66 6 (I 76 6)) 77 67 4) 78 68 4) 79 69 4), (uL J 66 7 (J 76 7)), R)) rfl ?_
  refine ev_gf (c := 76) (t := 80) (X := R 76 3) rfl rfl (fun _ => rfl) rfl (hG 76 3 80 rfl rfl) ?_
  refine ev_go 2 (pc1 := 80) (lv1 := [.ref 66, .ref 76]) (st1 := [.ref 66, .int 0, .ref 80]) (h1 := (124, (uC (uC (uC (uI (uI (uI I 66 4 (I 76 4)) 66 5 (I 76 5)) 66 6 (I 76 6)) 77 67 4) 78 68 4) 79 69 4), (uL J 66 7 (J 76 7)), R)) rfl ?_
  refine ev_gf (c := 66) (t := 70) (X := R 66 3) rfl rfl (fun _ => rfl) rfl (hG 66 3 70 rfl rfl) ?_
  refine ev_go 2 (pc1 := 85) (lv1 := [.ref 66, .ref 76]) (st1 := [.int 4, .int 0, .ref 70, .int 0, .ref 80]) (h1 := (124, (uC (uC (uC (uI (uI (uI I 66 4 (I 76 4)) 66 5 (I 76 5)) 66 6 (I 76 6)) 77 67 4) 78 68 4) 79 69 4), (uL J 66 7 (J 76 7)), R)) rfl ?_
  refine ev_step (pc1 := 88) (lv1 := [.ref 66, .ref 76]) (st1 := []) (h1 := (124, (uC (uC (uC (uC (uI (uI (uI I 66 4 (I 76 4)) 66 5 (I 76 5)) 66 6 (I 76 6)) 77 67 4) 78 68 4) 79 69 4) 80 70 4), (uL J 66 7 (J 76 7)), R)) rfl rfl ?_
  exact ev_ret rfl rfl
set_option maxRecDepth 20000 in
theorem sA_1 {L : Nat} {xs : Nat → Int32} {d : Nat} {I : Nat → Nat → Int32} {J : Nat → Nat → Int64} {R : Nat → Nat → Nat} (hG : aGd R)  : xEv L xs (d + 1) 136 0 [.ref 63, .int 1] [] (124, I, J, R) (some (.ref 76)) (124, I, J, R) := by
  refine ev_go 6 (pc1 := 17) (lv1 := [.ref 63, .int 1]) (st1 := [.ref 63]) (h1 := (124, I, J, R)) rfl ?_
  refine ev_gf (c := 63) (t := 76) (X := R 63 5) rfl rfl (fun _ => rfl) rfl (hG 63 5 76 rfl rfl) ?_
  refine ev_go 1 (pc1 := 27) (lv1 := [.ref 63, .int 1]) (st1 := [.ref 76]) (h1 := (124, I, J, R)) rfl ?_
  exact ev_ret rfl rfl
set_option maxRecDepth 20000 in
theorem cf_k2 {L : Nat} {xs : Nat → Int32} {d : Nat} {I : Nat → Nat → Int32} {J : Nat → Nat → Int64} {R : Nat → Nat → Nat} (hG : aGd R) (z1 : (I 66 4) = 0 ∨ (I 66 4) = 1) : xEv L xs (d + 1) 137 0 [.ref 81, .ref 66] [] (124, I, J, R) none (124, (uC (uC (uC (uC (uI (uI (uI I 81 4 (I 66 4)) 81 5 (I 66 5)) 81 6 (I 66 6)) 67 82 4) 68 83 4) 69 84 4) 70 85 4), (uL J 81 7 (J 66 7)), R) := by
  refine ev_go 3 (pc1 := 5) (lv1 := [.ref 81, .ref 66]) (st1 := [.int (I 66 4), .ref 81]) (h1 := (124, I, J, R)) rfl ?_
  refine ev_pz (c := 81) rfl rfl (fun _ => rfl) rfl z1 ?_
  refine ev_go 13 (pc1 := 33) (lv1 := [.ref 81, .ref 66]) (st1 := [.ref 66]) (h1 := (124, (uI (uI (uI I 81 4 (I 66 4)) 81 5 (I 66 5)) 81 6 (I 66 6)), (uL J 81 7 (J 66 7)), R)) rfl ?_
  refine ev_gf (c := 66) (t := 67) (X := R 66 0) rfl rfl (fun _ => rfl) rfl (hG 66 0 67 rfl rfl) ?_
  refine ev_go 2 (pc1 := 38) (lv1 := [.ref 81, .ref 66]) (st1 := [.ref 81, .int 0, .ref 67]) (h1 := (124, (uI (uI (uI I 81 4 (I 66 4)) 81 5 (I 66 5)) 81 6 (I 66 6)), (uL J 81 7 (J 66 7)), R)) rfl ?_
  refine ev_gf (c := 81) (t := 82) (X := R 81 0) rfl rfl (fun _ => rfl) rfl (hG 81 0 82 rfl rfl) ?_
  refine ev_go 2 (pc1 := 43) (lv1 := [.ref 81, .ref 66]) (st1 := [.int 4, .int 0, .ref 82, .int 0, .ref 67]) (h1 := (124, (uI (uI (uI I 81 4 (I 66 4)) 81 5 (I 66 5)) 81 6 (I 66 6)), (uL J 81 7 (J 66 7)), R)) rfl ?_
  refine ev_step (pc1 := 46) (lv1 := [.ref 81, .ref 66]) (st1 := []) (h1 := (124, (uC (uI (uI (uI I 81 4 (I 66 4)) 81 5 (I 66 5)) 81 6 (I 66 6)) 67 82 4), (uL J 81 7 (J 66 7)), R)) rfl rfl ?_
  refine ev_go 1 (pc1 := 47) (lv1 := [.ref 81, .ref 66]) (st1 := [.ref 66]) (h1 := (124, (uC (uI (uI (uI I 81 4 (I 66 4)) 81 5 (I 66 5)) 81 6 (I 66 6)) 67 82 4), (uL J 81 7 (J 66 7)), R)) rfl ?_
  refine ev_gf (c := 66) (t := 68) (X := R 66 1) rfl rfl (fun _ => rfl) rfl (hG 66 1 68 rfl rfl) ?_
  refine ev_go 2 (pc1 := 52) (lv1 := [.ref 81, .ref 66]) (st1 := [.ref 81, .int 0, .ref 68]) (h1 := (124, (uC (uI (uI (uI I 81 4 (I 66 4)) 81 5 (I 66 5)) 81 6 (I 66 6)) 67 82 4), (uL J 81 7 (J 66 7)), R)) rfl ?_
  refine ev_gf (c := 81) (t := 83) (X := R 81 1) rfl rfl (fun _ => rfl) rfl (hG 81 1 83 rfl rfl) ?_
  refine ev_go 2 (pc1 := 57) (lv1 := [.ref 81, .ref 66]) (st1 := [.int 4, .int 0, .ref 83, .int 0, .ref 68]) (h1 := (124, (uC (uI (uI (uI I 81 4 (I 66 4)) 81 5 (I 66 5)) 81 6 (I 66 6)) 67 82 4), (uL J 81 7 (J 66 7)), R)) rfl ?_
  refine ev_step (pc1 := 60) (lv1 := [.ref 81, .ref 66]) (st1 := []) (h1 := (124, (uC (uC (uI (uI (uI I 81 4 (I 66 4)) 81 5 (I 66 5)) 81 6 (I 66 6)) 67 82 4) 68 83 4), (uL J 81 7 (J 66 7)), R)) rfl rfl ?_
  refine ev_go 1 (pc1 := 61) (lv1 := [.ref 81, .ref 66]) (st1 := [.ref 66]) (h1 := (124, (uC (uC (uI (uI (uI I 81 4 (I 66 4)) 81 5 (I 66 5)) 81 6 (I 66 6)) 67 82 4) 68 83 4), (uL J 81 7 (J 66 7)), R)) rfl ?_
  refine ev_gf (c := 66) (t := 69) (X := R 66 2) rfl rfl (fun _ => rfl) rfl (hG 66 2 69 rfl rfl) ?_
  refine ev_go 2 (pc1 := 66) (lv1 := [.ref 81, .ref 66]) (st1 := [.ref 81, .int 0, .ref 69]) (h1 := (124, (uC (uC (uI (uI (uI I 81 4 (I 66 4)) 81 5 (I 66 5)) 81 6 (I 66 6)) 67 82 4) 68 83 4), (uL J 81 7 (J 66 7)), R)) rfl ?_
  refine ev_gf (c := 81) (t := 84) (X := R 81 2) rfl rfl (fun _ => rfl) rfl (hG 81 2 84 rfl rfl) ?_
  refine ev_go 2 (pc1 := 71) (lv1 := [.ref 81, .ref 66]) (st1 := [.int 4, .int 0, .ref 84, .int 0, .ref 69]) (h1 := (124, (uC (uC (uI (uI (uI I 81 4 (I 66 4)) 81 5 (I 66 5)) 81 6 (I 66 6)) 67 82 4) 68 83 4), (uL J 81 7 (J 66 7)), R)) rfl ?_
  refine ev_step (pc1 := 74) (lv1 := [.ref 81, .ref 66]) (st1 := []) (h1 := (124, (uC (uC (uC (uI (uI (uI I 81 4 (I 66 4)) 81 5 (I 66 5)) 81 6 (I 66 6)) 67 82 4) 68 83 4) 69 84 4), (uL J 81 7 (J 66 7)), R)) rfl rfl ?_
  refine ev_go 1 (pc1 := 75) (lv1 := [.ref 81, .ref 66]) (st1 := [.ref 66]) (h1 := (124, (uC (uC (uC (uI (uI (uI I 81 4 (I 66 4)) 81 5 (I 66 5)) 81 6 (I 66 6)) 67 82 4) 68 83 4) 69 84 4), (uL J 81 7 (J 66 7)), R)) rfl ?_
  refine ev_gf (c := 66) (t := 70) (X := R 66 3) rfl rfl (fun _ => rfl) rfl (hG 66 3 70 rfl rfl) ?_
  refine ev_go 2 (pc1 := 80) (lv1 := [.ref 81, .ref 66]) (st1 := [.ref 81, .int 0, .ref 70]) (h1 := (124, (uC (uC (uC (uI (uI (uI I 81 4 (I 66 4)) 81 5 (I 66 5)) 81 6 (I 66 6)) 67 82 4) 68 83 4) 69 84 4), (uL J 81 7 (J 66 7)), R)) rfl ?_
  refine ev_gf (c := 81) (t := 85) (X := R 81 3) rfl rfl (fun _ => rfl) rfl (hG 81 3 85 rfl rfl) ?_
  refine ev_go 2 (pc1 := 85) (lv1 := [.ref 81, .ref 66]) (st1 := [.int 4, .int 0, .ref 85, .int 0, .ref 70]) (h1 := (124, (uC (uC (uC (uI (uI (uI I 81 4 (I 66 4)) 81 5 (I 66 5)) 81 6 (I 66 6)) 67 82 4) 68 83 4) 69 84 4), (uL J 81 7 (J 66 7)), R)) rfl ?_
  refine ev_step (pc1 := 88) (lv1 := [.ref 81, .ref 66]) (st1 := []) (h1 := (124, (uC (uC (uC (uC (uI (uI (uI I 81 4 (I 66 4)) 81 5 (I 66 5)) 81 6 (I 66 6)) 67 82 4) 68 83 4) 69 84 4) 70 85 4), (uL J 81 7 (J 66 7)), R)) rfl rfl ?_
  exact ev_ret rfl rfl
set_option maxRecDepth 20000 in
theorem cf_t2 {L : Nat} {xs : Nat → Int32} {d : Nat} {I : Nat → Nat → Int32} {J : Nat → Nat → Int64} {R : Nat → Nat → Nat} (hG : aGd R) (z1 : (I 81 4) = 0 ∨ (I 81 4) = 1) : xEv L xs (d + 1) 137 0 [.ref 66, .ref 81] [] (124, I, J, R) none (124, (uC (uC (uC (uC (uI (uI (uI I 66 4 (I 81 4)) 66 5 (I 81 5)) 66 6 (I 81 6)) 82 67 4) 83 68 4) 84 69 4) 85 70 4), (uL J 66 7 (J 81 7)), R) := by
  refine ev_go 3 (pc1 := 5) (lv1 := [.ref 66, .ref 81]) (st1 := [.int (I 81 4), .ref 66]) (h1 := (124, I, J, R)) rfl ?_
  refine ev_pz (c := 66) rfl rfl (fun _ => rfl) rfl z1 ?_
  refine ev_go 13 (pc1 := 33) (lv1 := [.ref 66, .ref 81]) (st1 := [.ref 81]) (h1 := (124, (uI (uI (uI I 66 4 (I 81 4)) 66 5 (I 81 5)) 66 6 (I 81 6)), (uL J 66 7 (J 81 7)), R)) rfl ?_
  refine ev_gf (c := 81) (t := 82) (X := R 81 0) rfl rfl (fun _ => rfl) rfl (hG 81 0 82 rfl rfl) ?_
  refine ev_go 2 (pc1 := 38) (lv1 := [.ref 66, .ref 81]) (st1 := [.ref 66, .int 0, .ref 82]) (h1 := (124, (uI (uI (uI I 66 4 (I 81 4)) 66 5 (I 81 5)) 66 6 (I 81 6)), (uL J 66 7 (J 81 7)), R)) rfl ?_
  refine ev_gf (c := 66) (t := 67) (X := R 66 0) rfl rfl (fun _ => rfl) rfl (hG 66 0 67 rfl rfl) ?_
  refine ev_go 2 (pc1 := 43) (lv1 := [.ref 66, .ref 81]) (st1 := [.int 4, .int 0, .ref 67, .int 0, .ref 82]) (h1 := (124, (uI (uI (uI I 66 4 (I 81 4)) 66 5 (I 81 5)) 66 6 (I 81 6)), (uL J 66 7 (J 81 7)), R)) rfl ?_
  refine ev_step (pc1 := 46) (lv1 := [.ref 66, .ref 81]) (st1 := []) (h1 := (124, (uC (uI (uI (uI I 66 4 (I 81 4)) 66 5 (I 81 5)) 66 6 (I 81 6)) 82 67 4), (uL J 66 7 (J 81 7)), R)) rfl rfl ?_
  refine ev_go 1 (pc1 := 47) (lv1 := [.ref 66, .ref 81]) (st1 := [.ref 81]) (h1 := (124, (uC (uI (uI (uI I 66 4 (I 81 4)) 66 5 (I 81 5)) 66 6 (I 81 6)) 82 67 4), (uL J 66 7 (J 81 7)), R)) rfl ?_
  refine ev_gf (c := 81) (t := 83) (X := R 81 1) rfl rfl (fun _ => rfl) rfl (hG 81 1 83 rfl rfl) ?_
  refine ev_go 2 (pc1 := 52) (lv1 := [.ref 66, .ref 81]) (st1 := [.ref 66, .int 0, .ref 83]) (h1 := (124, (uC (uI (uI (uI I 66 4 (I 81 4)) 66 5 (I 81 5)) 66 6 (I 81 6)) 82 67 4), (uL J 66 7 (J 81 7)), R)) rfl ?_
  refine ev_gf (c := 66) (t := 68) (X := R 66 1) rfl rfl (fun _ => rfl) rfl (hG 66 1 68 rfl rfl) ?_
  refine ev_go 2 (pc1 := 57) (lv1 := [.ref 66, .ref 81]) (st1 := [.int 4, .int 0, .ref 68, .int 0, .ref 83]) (h1 := (124, (uC (uI (uI (uI I 66 4 (I 81 4)) 66 5 (I 81 5)) 66 6 (I 81 6)) 82 67 4), (uL J 66 7 (J 81 7)), R)) rfl ?_
  refine ev_step (pc1 := 60) (lv1 := [.ref 66, .ref 81]) (st1 := []) (h1 := (124, (uC (uC (uI (uI (uI I 66 4 (I 81 4)) 66 5 (I 81 5)) 66 6 (I 81 6)) 82 67 4) 83 68 4), (uL J 66 7 (J 81 7)), R)) rfl rfl ?_
  refine ev_go 1 (pc1 := 61) (lv1 := [.ref 66, .ref 81]) (st1 := [.ref 81]) (h1 := (124, (uC (uC (uI (uI (uI I 66 4 (I 81 4)) 66 5 (I 81 5)) 66 6 (I 81 6)) 82 67 4) 83 68 4), (uL J 66 7 (J 81 7)), R)) rfl ?_
  refine ev_gf (c := 81) (t := 84) (X := R 81 2) rfl rfl (fun _ => rfl) rfl (hG 81 2 84 rfl rfl) ?_
  refine ev_go 2 (pc1 := 66) (lv1 := [.ref 66, .ref 81]) (st1 := [.ref 66, .int 0, .ref 84]) (h1 := (124, (uC (uC (uI (uI (uI I 66 4 (I 81 4)) 66 5 (I 81 5)) 66 6 (I 81 6)) 82 67 4) 83 68 4), (uL J 66 7 (J 81 7)), R)) rfl ?_
  refine ev_gf (c := 66) (t := 69) (X := R 66 2) rfl rfl (fun _ => rfl) rfl (hG 66 2 69 rfl rfl) ?_
  refine ev_go 2 (pc1 := 71) (lv1 := [.ref 66, .ref 81]) (st1 := [.int 4, .int 0, .ref 69, .int 0, .ref 84]) (h1 := (124, (uC (uC (uI (uI (uI I 66 4 (I 81 4)) 66 5 (I 81 5)) 66 6 (I 81 6)) 82 67 4) 83 68 4), (uL J 66 7 (J 81 7)), R)) rfl ?_
  refine ev_step (pc1 := 74) (lv1 := [.ref 66, .ref 81]) (st1 := []) (h1 := (124, (uC (uC (uC (uI (uI (uI I 66 4 (I 81 4)) 66 5 (I 81 5)) 66 6 (I 81 6)) 82 67 4) 83 68 4) 84 69 4), (uL J 66 7 (J 81 7)), R)) rfl rfl ?_
  refine ev_go 1 (pc1 := 75) (lv1 := [.ref 66, .ref 81]) (st1 := [.ref 81]) (h1 := (124, (uC (uC (uC (uI (uI (uI I 66 4 (I 81 4)) 66 5 (I 81 5)) 66 6 (I 81 6)) 82 67 4) 83 68 4) 84 69 4), (uL J 66 7 (J 81 7)), R)) rfl ?_
  refine ev_gf (c := 81) (t := 85) (X := R 81 3) rfl rfl (fun _ => rfl) rfl (hG 81 3 85 rfl rfl) ?_
  refine ev_go 2 (pc1 := 80) (lv1 := [.ref 66, .ref 81]) (st1 := [.ref 66, .int 0, .ref 85]) (h1 := (124, (uC (uC (uC (uI (uI (uI I 66 4 (I 81 4)) 66 5 (I 81 5)) 66 6 (I 81 6)) 82 67 4) 83 68 4) 84 69 4), (uL J 66 7 (J 81 7)), R)) rfl ?_
  refine ev_gf (c := 66) (t := 70) (X := R 66 3) rfl rfl (fun _ => rfl) rfl (hG 66 3 70 rfl rfl) ?_
  refine ev_go 2 (pc1 := 85) (lv1 := [.ref 66, .ref 81]) (st1 := [.int 4, .int 0, .ref 70, .int 0, .ref 85]) (h1 := (124, (uC (uC (uC (uI (uI (uI I 66 4 (I 81 4)) 66 5 (I 81 5)) 66 6 (I 81 6)) 82 67 4) 83 68 4) 84 69 4), (uL J 66 7 (J 81 7)), R)) rfl ?_
  refine ev_step (pc1 := 88) (lv1 := [.ref 66, .ref 81]) (st1 := []) (h1 := (124, (uC (uC (uC (uC (uI (uI (uI I 66 4 (I 81 4)) 66 5 (I 81 5)) 66 6 (I 81 6)) 82 67 4) 83 68 4) 84 69 4) 85 70 4), (uL J 66 7 (J 81 7)), R)) rfl rfl ?_
  exact ev_ret rfl rfl
set_option maxRecDepth 20000 in
theorem sA_2 {L : Nat} {xs : Nat → Int32} {d : Nat} {I : Nat → Nat → Int32} {J : Nat → Nat → Int64} {R : Nat → Nat → Nat} (hG : aGd R)  : xEv L xs (d + 1) 136 0 [.ref 63, .int 2] [] (124, I, J, R) (some (.ref 81)) (124, I, J, R) := by
  refine ev_go 6 (pc1 := 24) (lv1 := [.ref 63, .int 2]) (st1 := [.ref 63]) (h1 := (124, I, J, R)) rfl ?_
  refine ev_gf (c := 63) (t := 81) (X := R 63 6) rfl rfl (fun _ => rfl) rfl (hG 63 6 81 rfl rfl) ?_
  exact ev_ret rfl rfl
set_option maxRecDepth 20000 in
theorem iL_1_0 {L : Nat} {xs : Nat → Int32} {d : Nat} {I : Nat → Nat → Int32} {J : Nat → Nat → Int64} {R : Nat → Nat → Nat} (hG : aGd R) (c1 : xEv L xs d 160 0 [.int 0, .int 0, .int 2] [] (124, I, J, R) (some (.int 1)) (124, I, J, R)) : xEv L xs (d + 1) 234 0 [.int 0] [] (124, I, J, R) (some (.int 1)) (124, I, J, R) := by
  refine ev_go 3 (pc1 := 3) (lv1 := [.int 0]) (st1 := [.int 2, .int 0, .int 0]) (h1 := (124, I, J, R)) rfl ?_
  refine ev_call (v1 := (some (.int 1))) (h1 := (124, I, J, R)) rfl rfl c1 ?_
  exact ev_ret rfl rfl
set_option maxRecDepth 20000 in
theorem iL_1_1 {L : Nat} {xs : Nat → Int32} {d : Nat} {I : Nat → Nat → Int32} {J : Nat → Nat → Int64} {R : Nat → Nat → Nat} (hG : aGd R) (c1 : xEv L xs d 160 0 [.int 1, .int 0, .int 2] [] (124, I, J, R) (some (.int 1)) (124, I, J, R)) : xEv L xs (d + 1) 234 0 [.int 1] [] (124, I, J, R) (some (.int 1)) (124, I, J, R) := by
  refine ev_go 3 (pc1 := 3) (lv1 := [.int 1]) (st1 := [.int 2, .int 0, .int 1]) (h1 := (124, I, J, R)) rfl ?_
  refine ev_call (v1 := (some (.int 1))) (h1 := (124, I, J, R)) rfl rfl c1 ?_
  exact ev_ret rfl rfl
set_option maxRecDepth 20000 in
theorem iL_1_2 {L : Nat} {xs : Nat → Int32} {d : Nat} {I : Nat → Nat → Int32} {J : Nat → Nat → Int64} {R : Nat → Nat → Nat} (hG : aGd R) (c1 : xEv L xs d 160 0 [.int 2, .int 0, .int 2] [] (124, I, J, R) (some (.int 1)) (124, I, J, R)) : xEv L xs (d + 1) 234 0 [.int 2] [] (124, I, J, R) (some (.int 1)) (124, I, J, R) := by
  refine ev_go 3 (pc1 := 3) (lv1 := [.int 2]) (st1 := [.int 2, .int 0, .int 2]) (h1 := (124, I, J, R)) rfl ?_
  refine ev_call (v1 := (some (.int 1))) (h1 := (124, I, J, R)) rfl rfl c1 ?_
  exact ev_ret rfl rfl
set_option maxRecDepth 20000 in
theorem kX_n {L : Nat} {xs : Nat → Int32} {d : Nat} {I : Nat → Nat → Int32} {J : Nat → Nat → Int64} {R : Nat → Nat → Nat} {a : Int32} (hG : aGd R) (b1 : a.toInt < 0) : xEv L xs d 135 0 [.ref 0, .int a, xmk] [] (124, I, J, R) (some (.int (-2))) (124, I, J, R) := by
  refine ev_go 1 (pc1 := 1) (lv1 := [.ref 0, .int a, xmk]) (st1 := [.int a]) (h1 := (124, I, J, R)) rfl ?_
  refine ev_br (b1 := true) rfl rfl (xcd_lt (x := a) (y := 0) (by rw [show ((0 : Int32)).toInt = 0 from by decide]; first | exact b1 | omega)) ?_
  refine ev_go 1 (pc1 := 11) (lv1 := [.ref 0, .int a, xmk]) (st1 := [.int (-2)]) (h1 := (124, I, J, R)) rfl ?_
  exact ev_ret rfl rfl
set_option maxRecDepth 20000 in
theorem kX_b {L : Nat} {xs : Nat → Int32} {d : Nat} {I : Nat → Nat → Int32} {J : Nat → Nat → Int64} {R : Nat → Nat → Nat} {a : Int32} (hG : aGd R) (b1 : a.toInt ≥ 0) (b2 : a.toInt ≥ 3) : xEv L xs d 135 0 [.ref 0, .int a, xmk] [] (124, I, J, R) (some (.int (-2))) (124, I, J, R) := by
  refine ev_go 1 (pc1 := 1) (lv1 := [.ref 0, .int a, xmk]) (st1 := [.int a]) (h1 := (124, I, J, R)) rfl ?_
  refine ev_br (b1 := false) rfl rfl (xcd_nlt (x := a) (y := 0) (by rw [show ((0 : Int32)).toInt = 0 from by decide]; first | exact b1 | omega)) ?_
  refine ev_go 2 (pc1 := 6) (lv1 := [.ref 0, .int a, xmk]) (st1 := [.int 3, .int a]) (h1 := (124, I, J, R)) rfl ?_
  refine ev_br (b1 := false) rfl rfl (xcd_nlt (x := a) (y := 3) (by rw [show ((3 : Int32)).toInt = 3 from by decide]; first | exact b2 | omega)) ?_
  refine ev_go 1 (pc1 := 11) (lv1 := [.ref 0, .int a, xmk]) (st1 := [.int (-2)]) (h1 := (124, I, J, R)) rfl ?_
  exact ev_ret rfl rfl
set_option maxRecDepth 20000 in
theorem kM_n {L : Nat} {xs : Nat → Int32} {d : Nat} {I : Nat → Nat → Int32} {J : Nat → Nat → Int64} {R : Nat → Nat → Nat} {a : Int32} (hG : aGd R) (c1 : xEv L xs d 234 0 [.int a] [] (124, I, J, R) (some (.int 0)) (124, I, J, R)) : xEv L xs (d + 1) 233 0 [.ref 86, .int a, xmk] [] (124, I, J, R) (some (.int (-2))) (124, I, J, R) := by
  refine ev_go 1 (pc1 := 1) (lv1 := [.ref 86, .int a, xmk]) (st1 := [.int a]) (h1 := (124, I, J, R)) rfl ?_
  refine ev_call (v1 := (some (.int 0))) (h1 := (124, I, J, R)) rfl rfl c1 ?_
  refine ev_go 2 (pc1 := 9) (lv1 := [.ref 86, .int a, xmk]) (st1 := [.int (-2)]) (h1 := (124, I, J, R)) rfl ?_
  exact ev_ret rfl rfl
set_option maxRecDepth 20000 in
theorem kX_o0 {L : Nat} {xs : Nat → Int32} {d : Nat} {I : Nat → Nat → Int32} {J : Nat → Nat → Int64} {R : Nat → Nat → Nat} (hG : aGd R) (b1 : (I 66 4).toInt = 0) : xEv L xs d 135 0 [.ref 0, .int 0, xmk] [] (124, I, J, R) (some (.int (-4))) (124, I, J, R) := by
  refine ev_go 6 (pc1 := 13) (lv1 := [.ref 0, .int 0, xmk]) (st1 := [.ref 0]) (h1 := (124, I, J, R)) rfl ?_
  refine ev_gf (c := 0) (t := 63) (X := R 0 7) rfl rfl (fun _ => rfl) rfl (hG 0 7 63 rfl rfl) ?_
  refine ev_gf (c := 63) (t := 66) (X := R 63 3) rfl rfl (fun _ => rfl) rfl (hG 63 3 66 rfl rfl) ?_
  refine ev_go 1 (pc1 := 22) (lv1 := [.ref 0, .int 0, xmk]) (st1 := [.int (I 66 4)]) (h1 := (124, I, J, R)) rfl ?_
  refine ev_br (b1 := false) rfl rfl (xcd_nne (x := (I 66 4)) (y := 0) (by rw [show ((0 : Int32)).toInt = 0 from by decide]; first | exact b1 | omega)) ?_
  refine ev_go 1 (pc1 := 27) (lv1 := [.ref 0, .int 0, xmk]) (st1 := [.int (-4)]) (h1 := (124, I, J, R)) rfl ?_
  exact ev_ret rfl rfl
set_option maxRecDepth 20000 in
theorem kX_r0 {L : Nat} {xs : Nat → Int32} {d : Nat} {I : Nat → Nat → Int32} {J : Nat → Nat → Int64} {R : Nat → Nat → Nat} (hG : aGd R) (b1 : (I 66 4).toInt ≠ 0) (c1 : xEv L xs d 136 0 [.ref 63, .int 0] [] (124, I, J, R) (some (.ref 71)) (124, I, J, R)) (c2 : xEv L xs d 137 0 [.ref 71, .ref 66] [] (124, I, J, R) none (124, (uC (uC (uC (uC (uI (uI (uI I 71 4 (I 66 4)) 71 5 (I 66 5)) 71 6 (I 66 6)) 67 72 4) 68 73 4) 69 74 4) 70 75 4), (uL J 71 7 (J 66 7)), R)) : xEv L xs (d + 1) 135 0 [.ref 0, .int 0, xmk] [] (124, I, J, R) (some (.int (I 66 5))) (124, (uC (uC (uC (uC (uI (uI (uI I 71 4 (I 66 4)) 71 5 (I 66 5)) 71 6 (I 66 6)) 67 72 4) 68 73 4) 69 74 4) 70 75 4), (uL J 71 7 (J 66 7)), R) := by
  refine ev_go 6 (pc1 := 13) (lv1 := [.ref 0, .int 0, xmk]) (st1 := [.ref 0]) (h1 := (124, I, J, R)) rfl ?_
  refine ev_gf (c := 0) (t := 63) (X := R 0 7) rfl rfl (fun _ => rfl) rfl (hG 0 7 63 rfl rfl) ?_
  refine ev_gf (c := 63) (t := 66) (X := R 63 3) rfl rfl (fun _ => rfl) rfl (hG 63 3 66 rfl rfl) ?_
  refine ev_go 1 (pc1 := 22) (lv1 := [.ref 0, .int 0, xmk]) (st1 := [.int (I 66 4)]) (h1 := (124, I, J, R)) rfl ?_
  refine ev_br (b1 := true) rfl rfl (xcd_ne (x := (I 66 4)) (y := 0) (by rw [show ((0 : Int32)).toInt = 0 from by decide]; first | exact b1 | omega)) ?_
  refine ev_go 1 (pc1 := 29) (lv1 := [.ref 0, .int 0, xmk]) (st1 := [.ref 0]) (h1 := (124, I, J, R)) rfl ?_
  refine ev_gf (c := 0) (t := 63) (X := R 0 7) rfl rfl (fun _ => rfl) rfl (hG 0 7 63 rfl rfl) ?_
  refine ev_go 1 (pc1 := 33) (lv1 := [.ref 0, .int 0, xmk]) (st1 := [.int 0, .ref 63]) (h1 := (124, I, J, R)) rfl ?_
  refine ev_call (v1 := (some (.ref 71))) (h1 := (124, I, J, R)) rfl rfl c1 ?_
  refine ev_go 3 (pc1 := 39) (lv1 := [.ref 0, .int 0, .ref 71]) (st1 := [.ref 0, .ref 71]) (h1 := (124, I, J, R)) rfl ?_
  refine ev_gf (c := 0) (t := 63) (X := R 0 7) rfl rfl (fun _ => rfl) rfl (hG 0 7 63 rfl rfl) ?_
  refine ev_gf (c := 63) (t := 66) (X := R 63 3) rfl rfl (fun _ => rfl) rfl (hG 63 3 66 rfl rfl) ?_
  refine ev_call (v1 := none) (h1 := (124, (uC (uC (uC (uC (uI (uI (uI I 71 4 (I 66 4)) 71 5 (I 66 5)) 71 6 (I 66 6)) 67 72 4) 68 73 4) 69 74 4) 70 75 4), (uL J 71 7 (J 66 7)), R)) rfl rfl c2 ?_
  refine ev_go 2 (pc1 := 52) (lv1 := [.ref 0, .int 0, .ref 71]) (st1 := [.int (I 66 5)]) (h1 := (124, (uC (uC (uC (uC (uI (uI (uI I 71 4 (I 66 4)) 71 5 (I 66 5)) 71 6 (I 66 6)) 67 72 4) 68 73 4) 69 74 4) 70 75 4), (uL J 71 7 (J 66 7)), R)) rfl ?_
  exact ev_ret rfl rfl
set_option maxRecDepth 20000 in
theorem kM_o0 {L : Nat} {xs : Nat → Int32} {d : Nat} {I : Nat → Nat → Int32} {J : Nat → Nat → Int64} {R : Nat → Nat → Nat} (hG : aGd R) (c1 : xEv L xs d 234 0 [.int 0] [] (124, I, J, R) (some (.int 1)) (124, I, J, R)) (b1 : (I 121 0).toInt = 0) : xEv L xs (d + 1) 233 0 [.ref 86, .int 0, xmk] [] (124, I, J, R) (some (.int (-4))) (124, I, J, R) := by
  refine ev_go 1 (pc1 := 1) (lv1 := [.ref 86, .int 0, xmk]) (st1 := [.int 0]) (h1 := (124, I, J, R)) rfl ?_
  refine ev_call (v1 := (some (.int 1))) (h1 := (124, I, J, R)) rfl rfl c1 ?_
  refine ev_go 2 (pc1 := 11) (lv1 := [.ref 86, .int 0, xmk]) (st1 := [.ref 86]) (h1 := (124, I, J, R)) rfl ?_
  refine ev_gf (c := 86) (t := 121) (X := R 86 56) rfl rfl (fun _ => rfl) rfl (hG 86 56 121 rfl rfl) ?_
  refine ev_go 2 (pc1 := 16) (lv1 := [.ref 86, .int 0, xmk]) (st1 := [.int (I 121 0)]) (h1 := (124, I, J, R)) rfl ?_
  refine ev_br (b1 := false) rfl rfl (xcd_nne (x := (I 121 0)) (y := 0) (by rw [show ((0 : Int32)).toInt = 0 from by decide]; first | exact b1 | omega)) ?_
  refine ev_go 1 (pc1 := 21) (lv1 := [.ref 86, .int 0, xmk]) (st1 := [.int (-4)]) (h1 := (124, I, J, R)) rfl ?_
  exact ev_ret rfl rfl
set_option maxRecDepth 20000 in
theorem kM_r0 {L : Nat} {xs : Nat → Int32} {d : Nat} {I : Nat → Nat → Int32} {J : Nat → Nat → Int64} {R : Nat → Nat → Nat} (hG : aGd R) (c1 : xEv L xs d 234 0 [.int 0] [] (124, I, J, R) (some (.int 1)) (124, I, J, R)) (b1 : (I 121 0).toInt ≠ 0) : xEv L xs (d + 1) 233 0 [.ref 86, .int 0, xmk] [] (124, I, J, R) (some (.int (I 121 1))) (124, (uI (uI (uI (uI (uI (uI (uI (uI (uI (uI (uI (uI (uI (uI (uI (uI (uI (uI (uI (uI (uI (uI (uI (uI (uI (uI I 123 0 (vp_nar .boolean 1)) 121 25 (I 121 0)) 121 26 (I 121 1)) 121 27 (I 121 2)) 121 28 (I 121 3)) 121 29 (I 121 4)) 121 30 (I 121 5)) 121 31 (I 121 6)) 121 32 (I 121 7)) 121 33 (I 121 8)) 121 34 (I 121 9)) 121 35 (I 121 10)) 121 36 (I 121 11)) 121 37 (I 121 12)) 121 38 (I 121 13)) 121 39 (I 121 14)) 121 40 (I 121 15)) 121 41 (I 121 16)) 121 42 (I 121 17)) 121 43 (I 121 18)) 121 44 (I 121 19)) 121 45 (I 121 20)) 121 46 (I 121 21)) 121 47 (I 121 22)) 121 48 (I 121 23)) 121 49 (I 121 24)), (uL J 122 1 (J 122 0)), R) := by
  refine ev_go 1 (pc1 := 1) (lv1 := [.ref 86, .int 0, xmk]) (st1 := [.int 0]) (h1 := (124, I, J, R)) rfl ?_
  refine ev_call (v1 := (some (.int 1))) (h1 := (124, I, J, R)) rfl rfl c1 ?_
  refine ev_go 2 (pc1 := 11) (lv1 := [.ref 86, .int 0, xmk]) (st1 := [.ref 86]) (h1 := (124, I, J, R)) rfl ?_
  refine ev_gf (c := 86) (t := 121) (X := R 86 56) rfl rfl (fun _ => rfl) rfl (hG 86 56 121 rfl rfl) ?_
  refine ev_go 2 (pc1 := 16) (lv1 := [.ref 86, .int 0, xmk]) (st1 := [.int (I 121 0)]) (h1 := (124, I, J, R)) rfl ?_
  refine ev_br (b1 := true) rfl rfl (xcd_ne (x := (I 121 0)) (y := 0) (by rw [show ((0 : Int32)).toInt = 0 from by decide]; first | exact b1 | omega)) ?_
  refine ev_go 1 (pc1 := 23) (lv1 := [.ref 86, .int 0, xmk]) (st1 := [.ref 86]) (h1 := (124, I, J, R)) rfl ?_
  refine ev_gf (c := 86) (t := 123) (X := R 86 58) rfl rfl (fun _ => rfl) rfl (hG 86 58 123 rfl rfl) ?_
  refine ev_go 9 (pc1 := 38) (lv1 := [.ref 86, .int 0, .int 0]) (st1 := [.ref 86]) (h1 := (124, (uI I 123 0 (vp_nar .boolean 1)), J, R)) rfl ?_
  refine ev_gf (c := 86) (t := 121) (X := R 86 56) rfl rfl (fun _ => rfl) rfl (hG 86 56 121 rfl rfl) ?_
  refine ev_go 8 (pc1 := 50) (lv1 := [.ref 86, .int 0, .int 0]) (st1 := [.ref 86, .int 25, .ref 121]) (h1 := (124, (uI I 123 0 (vp_nar .boolean 1)), J, R)) rfl ?_
  refine ev_gf (c := 86) (t := 121) (X := R 86 56) rfl rfl (fun _ => rfl) rfl (hG 86 56 121 rfl rfl) ?_
  refine ev_go 9 (pc1 := 38) (lv1 := [.ref 86, .int 0, .int 1]) (st1 := [.ref 86]) (h1 := (124, (uI (uI I 123 0 (vp_nar .boolean 1)) 121 25 (I 121 0)), J, R)) rfl ?_
  refine ev_gf (c := 86) (t := 121) (X := R 86 56) rfl rfl (fun _ => rfl) rfl (hG 86 56 121 rfl rfl) ?_
  refine ev_go 8 (pc1 := 50) (lv1 := [.ref 86, .int 0, .int 1]) (st1 := [.ref 86, .int 26, .ref 121]) (h1 := (124, (uI (uI I 123 0 (vp_nar .boolean 1)) 121 25 (I 121 0)), J, R)) rfl ?_
  refine ev_gf (c := 86) (t := 121) (X := R 86 56) rfl rfl (fun _ => rfl) rfl (hG 86 56 121 rfl rfl) ?_
  refine ev_go 9 (pc1 := 38) (lv1 := [.ref 86, .int 0, .int 2]) (st1 := [.ref 86]) (h1 := (124, (uI (uI (uI I 123 0 (vp_nar .boolean 1)) 121 25 (I 121 0)) 121 26 (I 121 1)), J, R)) rfl ?_
  refine ev_gf (c := 86) (t := 121) (X := R 86 56) rfl rfl (fun _ => rfl) rfl (hG 86 56 121 rfl rfl) ?_
  refine ev_go 8 (pc1 := 50) (lv1 := [.ref 86, .int 0, .int 2]) (st1 := [.ref 86, .int 27, .ref 121]) (h1 := (124, (uI (uI (uI I 123 0 (vp_nar .boolean 1)) 121 25 (I 121 0)) 121 26 (I 121 1)), J, R)) rfl ?_
  refine ev_gf (c := 86) (t := 121) (X := R 86 56) rfl rfl (fun _ => rfl) rfl (hG 86 56 121 rfl rfl) ?_
  refine ev_go 9 (pc1 := 38) (lv1 := [.ref 86, .int 0, .int 3]) (st1 := [.ref 86]) (h1 := (124, (uI (uI (uI (uI I 123 0 (vp_nar .boolean 1)) 121 25 (I 121 0)) 121 26 (I 121 1)) 121 27 (I 121 2)), J, R)) rfl ?_
  refine ev_gf (c := 86) (t := 121) (X := R 86 56) rfl rfl (fun _ => rfl) rfl (hG 86 56 121 rfl rfl) ?_
  refine ev_go 8 (pc1 := 50) (lv1 := [.ref 86, .int 0, .int 3]) (st1 := [.ref 86, .int 28, .ref 121]) (h1 := (124, (uI (uI (uI (uI I 123 0 (vp_nar .boolean 1)) 121 25 (I 121 0)) 121 26 (I 121 1)) 121 27 (I 121 2)), J, R)) rfl ?_
  refine ev_gf (c := 86) (t := 121) (X := R 86 56) rfl rfl (fun _ => rfl) rfl (hG 86 56 121 rfl rfl) ?_
  refine ev_go 9 (pc1 := 38) (lv1 := [.ref 86, .int 0, .int 4]) (st1 := [.ref 86]) (h1 := (124, (uI (uI (uI (uI (uI I 123 0 (vp_nar .boolean 1)) 121 25 (I 121 0)) 121 26 (I 121 1)) 121 27 (I 121 2)) 121 28 (I 121 3)), J, R)) rfl ?_
  refine ev_gf (c := 86) (t := 121) (X := R 86 56) rfl rfl (fun _ => rfl) rfl (hG 86 56 121 rfl rfl) ?_
  refine ev_go 8 (pc1 := 50) (lv1 := [.ref 86, .int 0, .int 4]) (st1 := [.ref 86, .int 29, .ref 121]) (h1 := (124, (uI (uI (uI (uI (uI I 123 0 (vp_nar .boolean 1)) 121 25 (I 121 0)) 121 26 (I 121 1)) 121 27 (I 121 2)) 121 28 (I 121 3)), J, R)) rfl ?_
  refine ev_gf (c := 86) (t := 121) (X := R 86 56) rfl rfl (fun _ => rfl) rfl (hG 86 56 121 rfl rfl) ?_
  refine ev_go 9 (pc1 := 38) (lv1 := [.ref 86, .int 0, .int 5]) (st1 := [.ref 86]) (h1 := (124, (uI (uI (uI (uI (uI (uI I 123 0 (vp_nar .boolean 1)) 121 25 (I 121 0)) 121 26 (I 121 1)) 121 27 (I 121 2)) 121 28 (I 121 3)) 121 29 (I 121 4)), J, R)) rfl ?_
  refine ev_gf (c := 86) (t := 121) (X := R 86 56) rfl rfl (fun _ => rfl) rfl (hG 86 56 121 rfl rfl) ?_
  refine ev_go 8 (pc1 := 50) (lv1 := [.ref 86, .int 0, .int 5]) (st1 := [.ref 86, .int 30, .ref 121]) (h1 := (124, (uI (uI (uI (uI (uI (uI I 123 0 (vp_nar .boolean 1)) 121 25 (I 121 0)) 121 26 (I 121 1)) 121 27 (I 121 2)) 121 28 (I 121 3)) 121 29 (I 121 4)), J, R)) rfl ?_
  refine ev_gf (c := 86) (t := 121) (X := R 86 56) rfl rfl (fun _ => rfl) rfl (hG 86 56 121 rfl rfl) ?_
  refine ev_go 9 (pc1 := 38) (lv1 := [.ref 86, .int 0, .int 6]) (st1 := [.ref 86]) (h1 := (124, (uI (uI (uI (uI (uI (uI (uI I 123 0 (vp_nar .boolean 1)) 121 25 (I 121 0)) 121 26 (I 121 1)) 121 27 (I 121 2)) 121 28 (I 121 3)) 121 29 (I 121 4)) 121 30 (I 121 5)), J, R)) rfl ?_
  refine ev_gf (c := 86) (t := 121) (X := R 86 56) rfl rfl (fun _ => rfl) rfl (hG 86 56 121 rfl rfl) ?_
  refine ev_go 8 (pc1 := 50) (lv1 := [.ref 86, .int 0, .int 6]) (st1 := [.ref 86, .int 31, .ref 121]) (h1 := (124, (uI (uI (uI (uI (uI (uI (uI I 123 0 (vp_nar .boolean 1)) 121 25 (I 121 0)) 121 26 (I 121 1)) 121 27 (I 121 2)) 121 28 (I 121 3)) 121 29 (I 121 4)) 121 30 (I 121 5)), J, R)) rfl ?_
  refine ev_gf (c := 86) (t := 121) (X := R 86 56) rfl rfl (fun _ => rfl) rfl (hG 86 56 121 rfl rfl) ?_
  refine ev_go 9 (pc1 := 38) (lv1 := [.ref 86, .int 0, .int 7]) (st1 := [.ref 86]) (h1 := (124, (uI (uI (uI (uI (uI (uI (uI (uI I 123 0 (vp_nar .boolean 1)) 121 25 (I 121 0)) 121 26 (I 121 1)) 121 27 (I 121 2)) 121 28 (I 121 3)) 121 29 (I 121 4)) 121 30 (I 121 5)) 121 31 (I 121 6)), J, R)) rfl ?_
  refine ev_gf (c := 86) (t := 121) (X := R 86 56) rfl rfl (fun _ => rfl) rfl (hG 86 56 121 rfl rfl) ?_
  refine ev_go 8 (pc1 := 50) (lv1 := [.ref 86, .int 0, .int 7]) (st1 := [.ref 86, .int 32, .ref 121]) (h1 := (124, (uI (uI (uI (uI (uI (uI (uI (uI I 123 0 (vp_nar .boolean 1)) 121 25 (I 121 0)) 121 26 (I 121 1)) 121 27 (I 121 2)) 121 28 (I 121 3)) 121 29 (I 121 4)) 121 30 (I 121 5)) 121 31 (I 121 6)), J, R)) rfl ?_
  refine ev_gf (c := 86) (t := 121) (X := R 86 56) rfl rfl (fun _ => rfl) rfl (hG 86 56 121 rfl rfl) ?_
  refine ev_go 9 (pc1 := 38) (lv1 := [.ref 86, .int 0, .int 8]) (st1 := [.ref 86]) (h1 := (124, (uI (uI (uI (uI (uI (uI (uI (uI (uI I 123 0 (vp_nar .boolean 1)) 121 25 (I 121 0)) 121 26 (I 121 1)) 121 27 (I 121 2)) 121 28 (I 121 3)) 121 29 (I 121 4)) 121 30 (I 121 5)) 121 31 (I 121 6)) 121 32 (I 121 7)), J, R)) rfl ?_
  refine ev_gf (c := 86) (t := 121) (X := R 86 56) rfl rfl (fun _ => rfl) rfl (hG 86 56 121 rfl rfl) ?_
  refine ev_go 8 (pc1 := 50) (lv1 := [.ref 86, .int 0, .int 8]) (st1 := [.ref 86, .int 33, .ref 121]) (h1 := (124, (uI (uI (uI (uI (uI (uI (uI (uI (uI I 123 0 (vp_nar .boolean 1)) 121 25 (I 121 0)) 121 26 (I 121 1)) 121 27 (I 121 2)) 121 28 (I 121 3)) 121 29 (I 121 4)) 121 30 (I 121 5)) 121 31 (I 121 6)) 121 32 (I 121 7)), J, R)) rfl ?_
  refine ev_gf (c := 86) (t := 121) (X := R 86 56) rfl rfl (fun _ => rfl) rfl (hG 86 56 121 rfl rfl) ?_
  refine ev_go 9 (pc1 := 38) (lv1 := [.ref 86, .int 0, .int 9]) (st1 := [.ref 86]) (h1 := (124, (uI (uI (uI (uI (uI (uI (uI (uI (uI (uI I 123 0 (vp_nar .boolean 1)) 121 25 (I 121 0)) 121 26 (I 121 1)) 121 27 (I 121 2)) 121 28 (I 121 3)) 121 29 (I 121 4)) 121 30 (I 121 5)) 121 31 (I 121 6)) 121 32 (I 121 7)) 121 33 (I 121 8)), J, R)) rfl ?_
  refine ev_gf (c := 86) (t := 121) (X := R 86 56) rfl rfl (fun _ => rfl) rfl (hG 86 56 121 rfl rfl) ?_
  refine ev_go 8 (pc1 := 50) (lv1 := [.ref 86, .int 0, .int 9]) (st1 := [.ref 86, .int 34, .ref 121]) (h1 := (124, (uI (uI (uI (uI (uI (uI (uI (uI (uI (uI I 123 0 (vp_nar .boolean 1)) 121 25 (I 121 0)) 121 26 (I 121 1)) 121 27 (I 121 2)) 121 28 (I 121 3)) 121 29 (I 121 4)) 121 30 (I 121 5)) 121 31 (I 121 6)) 121 32 (I 121 7)) 121 33 (I 121 8)), J, R)) rfl ?_
  refine ev_gf (c := 86) (t := 121) (X := R 86 56) rfl rfl (fun _ => rfl) rfl (hG 86 56 121 rfl rfl) ?_
  refine ev_go 9 (pc1 := 38) (lv1 := [.ref 86, .int 0, .int 10]) (st1 := [.ref 86]) (h1 := (124, (uI (uI (uI (uI (uI (uI (uI (uI (uI (uI (uI I 123 0 (vp_nar .boolean 1)) 121 25 (I 121 0)) 121 26 (I 121 1)) 121 27 (I 121 2)) 121 28 (I 121 3)) 121 29 (I 121 4)) 121 30 (I 121 5)) 121 31 (I 121 6)) 121 32 (I 121 7)) 121 33 (I 121 8)) 121 34 (I 121 9)), J, R)) rfl ?_
  refine ev_gf (c := 86) (t := 121) (X := R 86 56) rfl rfl (fun _ => rfl) rfl (hG 86 56 121 rfl rfl) ?_
  refine ev_go 8 (pc1 := 50) (lv1 := [.ref 86, .int 0, .int 10]) (st1 := [.ref 86, .int 35, .ref 121]) (h1 := (124, (uI (uI (uI (uI (uI (uI (uI (uI (uI (uI (uI I 123 0 (vp_nar .boolean 1)) 121 25 (I 121 0)) 121 26 (I 121 1)) 121 27 (I 121 2)) 121 28 (I 121 3)) 121 29 (I 121 4)) 121 30 (I 121 5)) 121 31 (I 121 6)) 121 32 (I 121 7)) 121 33 (I 121 8)) 121 34 (I 121 9)), J, R)) rfl ?_
  refine ev_gf (c := 86) (t := 121) (X := R 86 56) rfl rfl (fun _ => rfl) rfl (hG 86 56 121 rfl rfl) ?_
  refine ev_go 9 (pc1 := 38) (lv1 := [.ref 86, .int 0, .int 11]) (st1 := [.ref 86]) (h1 := (124, (uI (uI (uI (uI (uI (uI (uI (uI (uI (uI (uI (uI I 123 0 (vp_nar .boolean 1)) 121 25 (I 121 0)) 121 26 (I 121 1)) 121 27 (I 121 2)) 121 28 (I 121 3)) 121 29 (I 121 4)) 121 30 (I 121 5)) 121 31 (I 121 6)) 121 32 (I 121 7)) 121 33 (I 121 8)) 121 34 (I 121 9)) 121 35 (I 121 10)), J, R)) rfl ?_
  refine ev_gf (c := 86) (t := 121) (X := R 86 56) rfl rfl (fun _ => rfl) rfl (hG 86 56 121 rfl rfl) ?_
  refine ev_go 8 (pc1 := 50) (lv1 := [.ref 86, .int 0, .int 11]) (st1 := [.ref 86, .int 36, .ref 121]) (h1 := (124, (uI (uI (uI (uI (uI (uI (uI (uI (uI (uI (uI (uI I 123 0 (vp_nar .boolean 1)) 121 25 (I 121 0)) 121 26 (I 121 1)) 121 27 (I 121 2)) 121 28 (I 121 3)) 121 29 (I 121 4)) 121 30 (I 121 5)) 121 31 (I 121 6)) 121 32 (I 121 7)) 121 33 (I 121 8)) 121 34 (I 121 9)) 121 35 (I 121 10)), J, R)) rfl ?_
  refine ev_gf (c := 86) (t := 121) (X := R 86 56) rfl rfl (fun _ => rfl) rfl (hG 86 56 121 rfl rfl) ?_
  refine ev_go 9 (pc1 := 38) (lv1 := [.ref 86, .int 0, .int 12]) (st1 := [.ref 86]) (h1 := (124, (uI (uI (uI (uI (uI (uI (uI (uI (uI (uI (uI (uI (uI I 123 0 (vp_nar .boolean 1)) 121 25 (I 121 0)) 121 26 (I 121 1)) 121 27 (I 121 2)) 121 28 (I 121 3)) 121 29 (I 121 4)) 121 30 (I 121 5)) 121 31 (I 121 6)) 121 32 (I 121 7)) 121 33 (I 121 8)) 121 34 (I 121 9)) 121 35 (I 121 10)) 121 36 (I 121 11)), J, R)) rfl ?_
  refine ev_gf (c := 86) (t := 121) (X := R 86 56) rfl rfl (fun _ => rfl) rfl (hG 86 56 121 rfl rfl) ?_
  refine ev_go 8 (pc1 := 50) (lv1 := [.ref 86, .int 0, .int 12]) (st1 := [.ref 86, .int 37, .ref 121]) (h1 := (124, (uI (uI (uI (uI (uI (uI (uI (uI (uI (uI (uI (uI (uI I 123 0 (vp_nar .boolean 1)) 121 25 (I 121 0)) 121 26 (I 121 1)) 121 27 (I 121 2)) 121 28 (I 121 3)) 121 29 (I 121 4)) 121 30 (I 121 5)) 121 31 (I 121 6)) 121 32 (I 121 7)) 121 33 (I 121 8)) 121 34 (I 121 9)) 121 35 (I 121 10)) 121 36 (I 121 11)), J, R)) rfl ?_
  refine ev_gf (c := 86) (t := 121) (X := R 86 56) rfl rfl (fun _ => rfl) rfl (hG 86 56 121 rfl rfl) ?_
  refine ev_go 9 (pc1 := 38) (lv1 := [.ref 86, .int 0, .int 13]) (st1 := [.ref 86]) (h1 := (124, (uI (uI (uI (uI (uI (uI (uI (uI (uI (uI (uI (uI (uI (uI I 123 0 (vp_nar .boolean 1)) 121 25 (I 121 0)) 121 26 (I 121 1)) 121 27 (I 121 2)) 121 28 (I 121 3)) 121 29 (I 121 4)) 121 30 (I 121 5)) 121 31 (I 121 6)) 121 32 (I 121 7)) 121 33 (I 121 8)) 121 34 (I 121 9)) 121 35 (I 121 10)) 121 36 (I 121 11)) 121 37 (I 121 12)), J, R)) rfl ?_
  refine ev_gf (c := 86) (t := 121) (X := R 86 56) rfl rfl (fun _ => rfl) rfl (hG 86 56 121 rfl rfl) ?_
  refine ev_go 8 (pc1 := 50) (lv1 := [.ref 86, .int 0, .int 13]) (st1 := [.ref 86, .int 38, .ref 121]) (h1 := (124, (uI (uI (uI (uI (uI (uI (uI (uI (uI (uI (uI (uI (uI (uI I 123 0 (vp_nar .boolean 1)) 121 25 (I 121 0)) 121 26 (I 121 1)) 121 27 (I 121 2)) 121 28 (I 121 3)) 121 29 (I 121 4)) 121 30 (I 121 5)) 121 31 (I 121 6)) 121 32 (I 121 7)) 121 33 (I 121 8)) 121 34 (I 121 9)) 121 35 (I 121 10)) 121 36 (I 121 11)) 121 37 (I 121 12)), J, R)) rfl ?_
  refine ev_gf (c := 86) (t := 121) (X := R 86 56) rfl rfl (fun _ => rfl) rfl (hG 86 56 121 rfl rfl) ?_
  refine ev_go 9 (pc1 := 38) (lv1 := [.ref 86, .int 0, .int 14]) (st1 := [.ref 86]) (h1 := (124, (uI (uI (uI (uI (uI (uI (uI (uI (uI (uI (uI (uI (uI (uI (uI I 123 0 (vp_nar .boolean 1)) 121 25 (I 121 0)) 121 26 (I 121 1)) 121 27 (I 121 2)) 121 28 (I 121 3)) 121 29 (I 121 4)) 121 30 (I 121 5)) 121 31 (I 121 6)) 121 32 (I 121 7)) 121 33 (I 121 8)) 121 34 (I 121 9)) 121 35 (I 121 10)) 121 36 (I 121 11)) 121 37 (I 121 12)) 121 38 (I 121 13)), J, R)) rfl ?_
  refine ev_gf (c := 86) (t := 121) (X := R 86 56) rfl rfl (fun _ => rfl) rfl (hG 86 56 121 rfl rfl) ?_
  refine ev_go 8 (pc1 := 50) (lv1 := [.ref 86, .int 0, .int 14]) (st1 := [.ref 86, .int 39, .ref 121]) (h1 := (124, (uI (uI (uI (uI (uI (uI (uI (uI (uI (uI (uI (uI (uI (uI (uI I 123 0 (vp_nar .boolean 1)) 121 25 (I 121 0)) 121 26 (I 121 1)) 121 27 (I 121 2)) 121 28 (I 121 3)) 121 29 (I 121 4)) 121 30 (I 121 5)) 121 31 (I 121 6)) 121 32 (I 121 7)) 121 33 (I 121 8)) 121 34 (I 121 9)) 121 35 (I 121 10)) 121 36 (I 121 11)) 121 37 (I 121 12)) 121 38 (I 121 13)), J, R)) rfl ?_
  refine ev_gf (c := 86) (t := 121) (X := R 86 56) rfl rfl (fun _ => rfl) rfl (hG 86 56 121 rfl rfl) ?_
  refine ev_go 9 (pc1 := 38) (lv1 := [.ref 86, .int 0, .int 15]) (st1 := [.ref 86]) (h1 := (124, (uI (uI (uI (uI (uI (uI (uI (uI (uI (uI (uI (uI (uI (uI (uI (uI I 123 0 (vp_nar .boolean 1)) 121 25 (I 121 0)) 121 26 (I 121 1)) 121 27 (I 121 2)) 121 28 (I 121 3)) 121 29 (I 121 4)) 121 30 (I 121 5)) 121 31 (I 121 6)) 121 32 (I 121 7)) 121 33 (I 121 8)) 121 34 (I 121 9)) 121 35 (I 121 10)) 121 36 (I 121 11)) 121 37 (I 121 12)) 121 38 (I 121 13)) 121 39 (I 121 14)), J, R)) rfl ?_
  refine ev_gf (c := 86) (t := 121) (X := R 86 56) rfl rfl (fun _ => rfl) rfl (hG 86 56 121 rfl rfl) ?_
  refine ev_go 8 (pc1 := 50) (lv1 := [.ref 86, .int 0, .int 15]) (st1 := [.ref 86, .int 40, .ref 121]) (h1 := (124, (uI (uI (uI (uI (uI (uI (uI (uI (uI (uI (uI (uI (uI (uI (uI (uI I 123 0 (vp_nar .boolean 1)) 121 25 (I 121 0)) 121 26 (I 121 1)) 121 27 (I 121 2)) 121 28 (I 121 3)) 121 29 (I 121 4)) 121 30 (I 121 5)) 121 31 (I 121 6)) 121 32 (I 121 7)) 121 33 (I 121 8)) 121 34 (I 121 9)) 121 35 (I 121 10)) 121 36 (I 121 11)) 121 37 (I 121 12)) 121 38 (I 121 13)) 121 39 (I 121 14)), J, R)) rfl ?_
  refine ev_gf (c := 86) (t := 121) (X := R 86 56) rfl rfl (fun _ => rfl) rfl (hG 86 56 121 rfl rfl) ?_
  refine ev_go 9 (pc1 := 38) (lv1 := [.ref 86, .int 0, .int 16]) (st1 := [.ref 86]) (h1 := (124, (uI (uI (uI (uI (uI (uI (uI (uI (uI (uI (uI (uI (uI (uI (uI (uI (uI I 123 0 (vp_nar .boolean 1)) 121 25 (I 121 0)) 121 26 (I 121 1)) 121 27 (I 121 2)) 121 28 (I 121 3)) 121 29 (I 121 4)) 121 30 (I 121 5)) 121 31 (I 121 6)) 121 32 (I 121 7)) 121 33 (I 121 8)) 121 34 (I 121 9)) 121 35 (I 121 10)) 121 36 (I 121 11)) 121 37 (I 121 12)) 121 38 (I 121 13)) 121 39 (I 121 14)) 121 40 (I 121 15)), J, R)) rfl ?_
  refine ev_gf (c := 86) (t := 121) (X := R 86 56) rfl rfl (fun _ => rfl) rfl (hG 86 56 121 rfl rfl) ?_
  refine ev_go 8 (pc1 := 50) (lv1 := [.ref 86, .int 0, .int 16]) (st1 := [.ref 86, .int 41, .ref 121]) (h1 := (124, (uI (uI (uI (uI (uI (uI (uI (uI (uI (uI (uI (uI (uI (uI (uI (uI (uI I 123 0 (vp_nar .boolean 1)) 121 25 (I 121 0)) 121 26 (I 121 1)) 121 27 (I 121 2)) 121 28 (I 121 3)) 121 29 (I 121 4)) 121 30 (I 121 5)) 121 31 (I 121 6)) 121 32 (I 121 7)) 121 33 (I 121 8)) 121 34 (I 121 9)) 121 35 (I 121 10)) 121 36 (I 121 11)) 121 37 (I 121 12)) 121 38 (I 121 13)) 121 39 (I 121 14)) 121 40 (I 121 15)), J, R)) rfl ?_
  refine ev_gf (c := 86) (t := 121) (X := R 86 56) rfl rfl (fun _ => rfl) rfl (hG 86 56 121 rfl rfl) ?_
  refine ev_go 9 (pc1 := 38) (lv1 := [.ref 86, .int 0, .int 17]) (st1 := [.ref 86]) (h1 := (124, (uI (uI (uI (uI (uI (uI (uI (uI (uI (uI (uI (uI (uI (uI (uI (uI (uI (uI I 123 0 (vp_nar .boolean 1)) 121 25 (I 121 0)) 121 26 (I 121 1)) 121 27 (I 121 2)) 121 28 (I 121 3)) 121 29 (I 121 4)) 121 30 (I 121 5)) 121 31 (I 121 6)) 121 32 (I 121 7)) 121 33 (I 121 8)) 121 34 (I 121 9)) 121 35 (I 121 10)) 121 36 (I 121 11)) 121 37 (I 121 12)) 121 38 (I 121 13)) 121 39 (I 121 14)) 121 40 (I 121 15)) 121 41 (I 121 16)), J, R)) rfl ?_
  refine ev_gf (c := 86) (t := 121) (X := R 86 56) rfl rfl (fun _ => rfl) rfl (hG 86 56 121 rfl rfl) ?_
  refine ev_go 8 (pc1 := 50) (lv1 := [.ref 86, .int 0, .int 17]) (st1 := [.ref 86, .int 42, .ref 121]) (h1 := (124, (uI (uI (uI (uI (uI (uI (uI (uI (uI (uI (uI (uI (uI (uI (uI (uI (uI (uI I 123 0 (vp_nar .boolean 1)) 121 25 (I 121 0)) 121 26 (I 121 1)) 121 27 (I 121 2)) 121 28 (I 121 3)) 121 29 (I 121 4)) 121 30 (I 121 5)) 121 31 (I 121 6)) 121 32 (I 121 7)) 121 33 (I 121 8)) 121 34 (I 121 9)) 121 35 (I 121 10)) 121 36 (I 121 11)) 121 37 (I 121 12)) 121 38 (I 121 13)) 121 39 (I 121 14)) 121 40 (I 121 15)) 121 41 (I 121 16)), J, R)) rfl ?_
  refine ev_gf (c := 86) (t := 121) (X := R 86 56) rfl rfl (fun _ => rfl) rfl (hG 86 56 121 rfl rfl) ?_
  refine ev_go 9 (pc1 := 38) (lv1 := [.ref 86, .int 0, .int 18]) (st1 := [.ref 86]) (h1 := (124, (uI (uI (uI (uI (uI (uI (uI (uI (uI (uI (uI (uI (uI (uI (uI (uI (uI (uI (uI I 123 0 (vp_nar .boolean 1)) 121 25 (I 121 0)) 121 26 (I 121 1)) 121 27 (I 121 2)) 121 28 (I 121 3)) 121 29 (I 121 4)) 121 30 (I 121 5)) 121 31 (I 121 6)) 121 32 (I 121 7)) 121 33 (I 121 8)) 121 34 (I 121 9)) 121 35 (I 121 10)) 121 36 (I 121 11)) 121 37 (I 121 12)) 121 38 (I 121 13)) 121 39 (I 121 14)) 121 40 (I 121 15)) 121 41 (I 121 16)) 121 42 (I 121 17)), J, R)) rfl ?_
  refine ev_gf (c := 86) (t := 121) (X := R 86 56) rfl rfl (fun _ => rfl) rfl (hG 86 56 121 rfl rfl) ?_
  refine ev_go 8 (pc1 := 50) (lv1 := [.ref 86, .int 0, .int 18]) (st1 := [.ref 86, .int 43, .ref 121]) (h1 := (124, (uI (uI (uI (uI (uI (uI (uI (uI (uI (uI (uI (uI (uI (uI (uI (uI (uI (uI (uI I 123 0 (vp_nar .boolean 1)) 121 25 (I 121 0)) 121 26 (I 121 1)) 121 27 (I 121 2)) 121 28 (I 121 3)) 121 29 (I 121 4)) 121 30 (I 121 5)) 121 31 (I 121 6)) 121 32 (I 121 7)) 121 33 (I 121 8)) 121 34 (I 121 9)) 121 35 (I 121 10)) 121 36 (I 121 11)) 121 37 (I 121 12)) 121 38 (I 121 13)) 121 39 (I 121 14)) 121 40 (I 121 15)) 121 41 (I 121 16)) 121 42 (I 121 17)), J, R)) rfl ?_
  refine ev_gf (c := 86) (t := 121) (X := R 86 56) rfl rfl (fun _ => rfl) rfl (hG 86 56 121 rfl rfl) ?_
  refine ev_go 9 (pc1 := 38) (lv1 := [.ref 86, .int 0, .int 19]) (st1 := [.ref 86]) (h1 := (124, (uI (uI (uI (uI (uI (uI (uI (uI (uI (uI (uI (uI (uI (uI (uI (uI (uI (uI (uI (uI I 123 0 (vp_nar .boolean 1)) 121 25 (I 121 0)) 121 26 (I 121 1)) 121 27 (I 121 2)) 121 28 (I 121 3)) 121 29 (I 121 4)) 121 30 (I 121 5)) 121 31 (I 121 6)) 121 32 (I 121 7)) 121 33 (I 121 8)) 121 34 (I 121 9)) 121 35 (I 121 10)) 121 36 (I 121 11)) 121 37 (I 121 12)) 121 38 (I 121 13)) 121 39 (I 121 14)) 121 40 (I 121 15)) 121 41 (I 121 16)) 121 42 (I 121 17)) 121 43 (I 121 18)), J, R)) rfl ?_
  refine ev_gf (c := 86) (t := 121) (X := R 86 56) rfl rfl (fun _ => rfl) rfl (hG 86 56 121 rfl rfl) ?_
  refine ev_go 8 (pc1 := 50) (lv1 := [.ref 86, .int 0, .int 19]) (st1 := [.ref 86, .int 44, .ref 121]) (h1 := (124, (uI (uI (uI (uI (uI (uI (uI (uI (uI (uI (uI (uI (uI (uI (uI (uI (uI (uI (uI (uI I 123 0 (vp_nar .boolean 1)) 121 25 (I 121 0)) 121 26 (I 121 1)) 121 27 (I 121 2)) 121 28 (I 121 3)) 121 29 (I 121 4)) 121 30 (I 121 5)) 121 31 (I 121 6)) 121 32 (I 121 7)) 121 33 (I 121 8)) 121 34 (I 121 9)) 121 35 (I 121 10)) 121 36 (I 121 11)) 121 37 (I 121 12)) 121 38 (I 121 13)) 121 39 (I 121 14)) 121 40 (I 121 15)) 121 41 (I 121 16)) 121 42 (I 121 17)) 121 43 (I 121 18)), J, R)) rfl ?_
  refine ev_gf (c := 86) (t := 121) (X := R 86 56) rfl rfl (fun _ => rfl) rfl (hG 86 56 121 rfl rfl) ?_
  refine ev_go 9 (pc1 := 38) (lv1 := [.ref 86, .int 0, .int 20]) (st1 := [.ref 86]) (h1 := (124, (uI (uI (uI (uI (uI (uI (uI (uI (uI (uI (uI (uI (uI (uI (uI (uI (uI (uI (uI (uI (uI I 123 0 (vp_nar .boolean 1)) 121 25 (I 121 0)) 121 26 (I 121 1)) 121 27 (I 121 2)) 121 28 (I 121 3)) 121 29 (I 121 4)) 121 30 (I 121 5)) 121 31 (I 121 6)) 121 32 (I 121 7)) 121 33 (I 121 8)) 121 34 (I 121 9)) 121 35 (I 121 10)) 121 36 (I 121 11)) 121 37 (I 121 12)) 121 38 (I 121 13)) 121 39 (I 121 14)) 121 40 (I 121 15)) 121 41 (I 121 16)) 121 42 (I 121 17)) 121 43 (I 121 18)) 121 44 (I 121 19)), J, R)) rfl ?_
  refine ev_gf (c := 86) (t := 121) (X := R 86 56) rfl rfl (fun _ => rfl) rfl (hG 86 56 121 rfl rfl) ?_
  refine ev_go 8 (pc1 := 50) (lv1 := [.ref 86, .int 0, .int 20]) (st1 := [.ref 86, .int 45, .ref 121]) (h1 := (124, (uI (uI (uI (uI (uI (uI (uI (uI (uI (uI (uI (uI (uI (uI (uI (uI (uI (uI (uI (uI (uI I 123 0 (vp_nar .boolean 1)) 121 25 (I 121 0)) 121 26 (I 121 1)) 121 27 (I 121 2)) 121 28 (I 121 3)) 121 29 (I 121 4)) 121 30 (I 121 5)) 121 31 (I 121 6)) 121 32 (I 121 7)) 121 33 (I 121 8)) 121 34 (I 121 9)) 121 35 (I 121 10)) 121 36 (I 121 11)) 121 37 (I 121 12)) 121 38 (I 121 13)) 121 39 (I 121 14)) 121 40 (I 121 15)) 121 41 (I 121 16)) 121 42 (I 121 17)) 121 43 (I 121 18)) 121 44 (I 121 19)), J, R)) rfl ?_
  refine ev_gf (c := 86) (t := 121) (X := R 86 56) rfl rfl (fun _ => rfl) rfl (hG 86 56 121 rfl rfl) ?_
  refine ev_go 9 (pc1 := 38) (lv1 := [.ref 86, .int 0, .int 21]) (st1 := [.ref 86]) (h1 := (124, (uI (uI (uI (uI (uI (uI (uI (uI (uI (uI (uI (uI (uI (uI (uI (uI (uI (uI (uI (uI (uI (uI I 123 0 (vp_nar .boolean 1)) 121 25 (I 121 0)) 121 26 (I 121 1)) 121 27 (I 121 2)) 121 28 (I 121 3)) 121 29 (I 121 4)) 121 30 (I 121 5)) 121 31 (I 121 6)) 121 32 (I 121 7)) 121 33 (I 121 8)) 121 34 (I 121 9)) 121 35 (I 121 10)) 121 36 (I 121 11)) 121 37 (I 121 12)) 121 38 (I 121 13)) 121 39 (I 121 14)) 121 40 (I 121 15)) 121 41 (I 121 16)) 121 42 (I 121 17)) 121 43 (I 121 18)) 121 44 (I 121 19)) 121 45 (I 121 20)), J, R)) rfl ?_
  refine ev_gf (c := 86) (t := 121) (X := R 86 56) rfl rfl (fun _ => rfl) rfl (hG 86 56 121 rfl rfl) ?_
  refine ev_go 8 (pc1 := 50) (lv1 := [.ref 86, .int 0, .int 21]) (st1 := [.ref 86, .int 46, .ref 121]) (h1 := (124, (uI (uI (uI (uI (uI (uI (uI (uI (uI (uI (uI (uI (uI (uI (uI (uI (uI (uI (uI (uI (uI (uI I 123 0 (vp_nar .boolean 1)) 121 25 (I 121 0)) 121 26 (I 121 1)) 121 27 (I 121 2)) 121 28 (I 121 3)) 121 29 (I 121 4)) 121 30 (I 121 5)) 121 31 (I 121 6)) 121 32 (I 121 7)) 121 33 (I 121 8)) 121 34 (I 121 9)) 121 35 (I 121 10)) 121 36 (I 121 11)) 121 37 (I 121 12)) 121 38 (I 121 13)) 121 39 (I 121 14)) 121 40 (I 121 15)) 121 41 (I 121 16)) 121 42 (I 121 17)) 121 43 (I 121 18)) 121 44 (I 121 19)) 121 45 (I 121 20)), J, R)) rfl ?_
  refine ev_gf (c := 86) (t := 121) (X := R 86 56) rfl rfl (fun _ => rfl) rfl (hG 86 56 121 rfl rfl) ?_
  refine ev_go 9 (pc1 := 38) (lv1 := [.ref 86, .int 0, .int 22]) (st1 := [.ref 86]) (h1 := (124, (uI (uI (uI (uI (uI (uI (uI (uI (uI (uI (uI (uI (uI (uI (uI (uI (uI (uI (uI (uI (uI (uI (uI I 123 0 (vp_nar .boolean 1)) 121 25 (I 121 0)) 121 26 (I 121 1)) 121 27 (I 121 2)) 121 28 (I 121 3)) 121 29 (I 121 4)) 121 30 (I 121 5)) 121 31 (I 121 6)) 121 32 (I 121 7)) 121 33 (I 121 8)) 121 34 (I 121 9)) 121 35 (I 121 10)) 121 36 (I 121 11)) 121 37 (I 121 12)) 121 38 (I 121 13)) 121 39 (I 121 14)) 121 40 (I 121 15)) 121 41 (I 121 16)) 121 42 (I 121 17)) 121 43 (I 121 18)) 121 44 (I 121 19)) 121 45 (I 121 20)) 121 46 (I 121 21)), J, R)) rfl ?_
  refine ev_gf (c := 86) (t := 121) (X := R 86 56) rfl rfl (fun _ => rfl) rfl (hG 86 56 121 rfl rfl) ?_
  refine ev_go 8 (pc1 := 50) (lv1 := [.ref 86, .int 0, .int 22]) (st1 := [.ref 86, .int 47, .ref 121]) (h1 := (124, (uI (uI (uI (uI (uI (uI (uI (uI (uI (uI (uI (uI (uI (uI (uI (uI (uI (uI (uI (uI (uI (uI (uI I 123 0 (vp_nar .boolean 1)) 121 25 (I 121 0)) 121 26 (I 121 1)) 121 27 (I 121 2)) 121 28 (I 121 3)) 121 29 (I 121 4)) 121 30 (I 121 5)) 121 31 (I 121 6)) 121 32 (I 121 7)) 121 33 (I 121 8)) 121 34 (I 121 9)) 121 35 (I 121 10)) 121 36 (I 121 11)) 121 37 (I 121 12)) 121 38 (I 121 13)) 121 39 (I 121 14)) 121 40 (I 121 15)) 121 41 (I 121 16)) 121 42 (I 121 17)) 121 43 (I 121 18)) 121 44 (I 121 19)) 121 45 (I 121 20)) 121 46 (I 121 21)), J, R)) rfl ?_
  refine ev_gf (c := 86) (t := 121) (X := R 86 56) rfl rfl (fun _ => rfl) rfl (hG 86 56 121 rfl rfl) ?_
  refine ev_go 9 (pc1 := 38) (lv1 := [.ref 86, .int 0, .int 23]) (st1 := [.ref 86]) (h1 := (124, (uI (uI (uI (uI (uI (uI (uI (uI (uI (uI (uI (uI (uI (uI (uI (uI (uI (uI (uI (uI (uI (uI (uI (uI I 123 0 (vp_nar .boolean 1)) 121 25 (I 121 0)) 121 26 (I 121 1)) 121 27 (I 121 2)) 121 28 (I 121 3)) 121 29 (I 121 4)) 121 30 (I 121 5)) 121 31 (I 121 6)) 121 32 (I 121 7)) 121 33 (I 121 8)) 121 34 (I 121 9)) 121 35 (I 121 10)) 121 36 (I 121 11)) 121 37 (I 121 12)) 121 38 (I 121 13)) 121 39 (I 121 14)) 121 40 (I 121 15)) 121 41 (I 121 16)) 121 42 (I 121 17)) 121 43 (I 121 18)) 121 44 (I 121 19)) 121 45 (I 121 20)) 121 46 (I 121 21)) 121 47 (I 121 22)), J, R)) rfl ?_
  refine ev_gf (c := 86) (t := 121) (X := R 86 56) rfl rfl (fun _ => rfl) rfl (hG 86 56 121 rfl rfl) ?_
  refine ev_go 8 (pc1 := 50) (lv1 := [.ref 86, .int 0, .int 23]) (st1 := [.ref 86, .int 48, .ref 121]) (h1 := (124, (uI (uI (uI (uI (uI (uI (uI (uI (uI (uI (uI (uI (uI (uI (uI (uI (uI (uI (uI (uI (uI (uI (uI (uI I 123 0 (vp_nar .boolean 1)) 121 25 (I 121 0)) 121 26 (I 121 1)) 121 27 (I 121 2)) 121 28 (I 121 3)) 121 29 (I 121 4)) 121 30 (I 121 5)) 121 31 (I 121 6)) 121 32 (I 121 7)) 121 33 (I 121 8)) 121 34 (I 121 9)) 121 35 (I 121 10)) 121 36 (I 121 11)) 121 37 (I 121 12)) 121 38 (I 121 13)) 121 39 (I 121 14)) 121 40 (I 121 15)) 121 41 (I 121 16)) 121 42 (I 121 17)) 121 43 (I 121 18)) 121 44 (I 121 19)) 121 45 (I 121 20)) 121 46 (I 121 21)) 121 47 (I 121 22)), J, R)) rfl ?_
  refine ev_gf (c := 86) (t := 121) (X := R 86 56) rfl rfl (fun _ => rfl) rfl (hG 86 56 121 rfl rfl) ?_
  refine ev_go 9 (pc1 := 38) (lv1 := [.ref 86, .int 0, .int 24]) (st1 := [.ref 86]) (h1 := (124, (uI (uI (uI (uI (uI (uI (uI (uI (uI (uI (uI (uI (uI (uI (uI (uI (uI (uI (uI (uI (uI (uI (uI (uI (uI I 123 0 (vp_nar .boolean 1)) 121 25 (I 121 0)) 121 26 (I 121 1)) 121 27 (I 121 2)) 121 28 (I 121 3)) 121 29 (I 121 4)) 121 30 (I 121 5)) 121 31 (I 121 6)) 121 32 (I 121 7)) 121 33 (I 121 8)) 121 34 (I 121 9)) 121 35 (I 121 10)) 121 36 (I 121 11)) 121 37 (I 121 12)) 121 38 (I 121 13)) 121 39 (I 121 14)) 121 40 (I 121 15)) 121 41 (I 121 16)) 121 42 (I 121 17)) 121 43 (I 121 18)) 121 44 (I 121 19)) 121 45 (I 121 20)) 121 46 (I 121 21)) 121 47 (I 121 22)) 121 48 (I 121 23)), J, R)) rfl ?_
  refine ev_gf (c := 86) (t := 121) (X := R 86 56) rfl rfl (fun _ => rfl) rfl (hG 86 56 121 rfl rfl) ?_
  refine ev_go 8 (pc1 := 50) (lv1 := [.ref 86, .int 0, .int 24]) (st1 := [.ref 86, .int 49, .ref 121]) (h1 := (124, (uI (uI (uI (uI (uI (uI (uI (uI (uI (uI (uI (uI (uI (uI (uI (uI (uI (uI (uI (uI (uI (uI (uI (uI (uI I 123 0 (vp_nar .boolean 1)) 121 25 (I 121 0)) 121 26 (I 121 1)) 121 27 (I 121 2)) 121 28 (I 121 3)) 121 29 (I 121 4)) 121 30 (I 121 5)) 121 31 (I 121 6)) 121 32 (I 121 7)) 121 33 (I 121 8)) 121 34 (I 121 9)) 121 35 (I 121 10)) 121 36 (I 121 11)) 121 37 (I 121 12)) 121 38 (I 121 13)) 121 39 (I 121 14)) 121 40 (I 121 15)) 121 41 (I 121 16)) 121 42 (I 121 17)) 121 43 (I 121 18)) 121 44 (I 121 19)) 121 45 (I 121 20)) 121 46 (I 121 21)) 121 47 (I 121 22)) 121 48 (I 121 23)), J, R)) rfl ?_
  refine ev_gf (c := 86) (t := 121) (X := R 86 56) rfl rfl (fun _ => rfl) rfl (hG 86 56 121 rfl rfl) ?_
  refine ev_go 9 (pc1 := 63) (lv1 := [.ref 86, .int 0, .int 25]) (st1 := [.ref 86]) (h1 := (124, (uI (uI (uI (uI (uI (uI (uI (uI (uI (uI (uI (uI (uI (uI (uI (uI (uI (uI (uI (uI (uI (uI (uI (uI (uI (uI I 123 0 (vp_nar .boolean 1)) 121 25 (I 121 0)) 121 26 (I 121 1)) 121 27 (I 121 2)) 121 28 (I 121 3)) 121 29 (I 121 4)) 121 30 (I 121 5)) 121 31 (I 121 6)) 121 32 (I 121 7)) 121 33 (I 121 8)) 121 34 (I 121 9)) 121 35 (I 121 10)) 121 36 (I 121 11)) 121 37 (I 121 12)) 121 38 (I 121 13)) 121 39 (I 121 14)) 121 40 (I 121 15)) 121 41 (I 121 16)) 121 42 (I 121 17)) 121 43 (I 121 18)) 121 44 (I 121 19)) 121 45 (I 121 20)) 121 46 (I 121 21)) 121 47 (I 121 22)) 121 48 (I 121 23)) 121 49 (I 121 24)), J, R)) rfl ?_
  refine ev_gf (c := 86) (t := 122) (X := R 86 57) rfl rfl (fun _ => rfl) rfl (hG 86 57 122 rfl rfl) ?_
  refine ev_go 4 (pc1 := 70) (lv1 := [.ref 86, .int 0, .int 25]) (st1 := [.ref 86, .int 1, .ref 122]) (h1 := (124, (uI (uI (uI (uI (uI (uI (uI (uI (uI (uI (uI (uI (uI (uI (uI (uI (uI (uI (uI (uI (uI (uI (uI (uI (uI (uI I 123 0 (vp_nar .boolean 1)) 121 25 (I 121 0)) 121 26 (I 121 1)) 121 27 (I 121 2)) 121 28 (I 121 3)) 121 29 (I 121 4)) 121 30 (I 121 5)) 121 31 (I 121 6)) 121 32 (I 121 7)) 121 33 (I 121 8)) 121 34 (I 121 9)) 121 35 (I 121 10)) 121 36 (I 121 11)) 121 37 (I 121 12)) 121 38 (I 121 13)) 121 39 (I 121 14)) 121 40 (I 121 15)) 121 41 (I 121 16)) 121 42 (I 121 17)) 121 43 (I 121 18)) 121 44 (I 121 19)) 121 45 (I 121 20)) 121 46 (I 121 21)) 121 47 (I 121 22)) 121 48 (I 121 23)) 121 49 (I 121 24)), J, R)) rfl ?_
  refine ev_gf (c := 86) (t := 122) (X := R 86 57) rfl rfl (fun _ => rfl) rfl (hG 86 57 122 rfl rfl) ?_
  refine ev_go 4 (pc1 := 77) (lv1 := [.ref 86, .int 0, .int 25]) (st1 := [.ref 86]) (h1 := (124, (uI (uI (uI (uI (uI (uI (uI (uI (uI (uI (uI (uI (uI (uI (uI (uI (uI (uI (uI (uI (uI (uI (uI (uI (uI (uI I 123 0 (vp_nar .boolean 1)) 121 25 (I 121 0)) 121 26 (I 121 1)) 121 27 (I 121 2)) 121 28 (I 121 3)) 121 29 (I 121 4)) 121 30 (I 121 5)) 121 31 (I 121 6)) 121 32 (I 121 7)) 121 33 (I 121 8)) 121 34 (I 121 9)) 121 35 (I 121 10)) 121 36 (I 121 11)) 121 37 (I 121 12)) 121 38 (I 121 13)) 121 39 (I 121 14)) 121 40 (I 121 15)) 121 41 (I 121 16)) 121 42 (I 121 17)) 121 43 (I 121 18)) 121 44 (I 121 19)) 121 45 (I 121 20)) 121 46 (I 121 21)) 121 47 (I 121 22)) 121 48 (I 121 23)) 121 49 (I 121 24)), (uL J 122 1 (J 122 0)), R)) rfl ?_
  refine ev_gf (c := 86) (t := 121) (X := R 86 56) rfl rfl (fun _ => rfl) rfl (hG 86 56 121 rfl rfl) ?_
  refine ev_go 2 (pc1 := 82) (lv1 := [.ref 86, .int 0, .int 25]) (st1 := [.int (I 121 1)]) (h1 := (124, (uI (uI (uI (uI (uI (uI (uI (uI (uI (uI (uI (uI (uI (uI (uI (uI (uI (uI (uI (uI (uI (uI (uI (uI (uI (uI I 123 0 (vp_nar .boolean 1)) 121 25 (I 121 0)) 121 26 (I 121 1)) 121 27 (I 121 2)) 121 28 (I 121 3)) 121 29 (I 121 4)) 121 30 (I 121 5)) 121 31 (I 121 6)) 121 32 (I 121 7)) 121 33 (I 121 8)) 121 34 (I 121 9)) 121 35 (I 121 10)) 121 36 (I 121 11)) 121 37 (I 121 12)) 121 38 (I 121 13)) 121 39 (I 121 14)) 121 40 (I 121 15)) 121 41 (I 121 16)) 121 42 (I 121 17)) 121 43 (I 121 18)) 121 44 (I 121 19)) 121 45 (I 121 20)) 121 46 (I 121 21)) 121 47 (I 121 22)) 121 48 (I 121 23)) 121 49 (I 121 24)), (uL J 122 1 (J 122 0)), R)) rfl ?_
  exact ev_ret rfl rfl
set_option maxRecDepth 20000 in
theorem kX_o1 {L : Nat} {xs : Nat → Int32} {d : Nat} {I : Nat → Nat → Int32} {J : Nat → Nat → Int64} {R : Nat → Nat → Nat} (hG : aGd R) (b1 : (I 66 4).toInt = 0) : xEv L xs d 135 0 [.ref 0, .int 1, xmk] [] (124, I, J, R) (some (.int (-4))) (124, I, J, R) := by
  refine ev_go 6 (pc1 := 13) (lv1 := [.ref 0, .int 1, xmk]) (st1 := [.ref 0]) (h1 := (124, I, J, R)) rfl ?_
  refine ev_gf (c := 0) (t := 63) (X := R 0 7) rfl rfl (fun _ => rfl) rfl (hG 0 7 63 rfl rfl) ?_
  refine ev_gf (c := 63) (t := 66) (X := R 63 3) rfl rfl (fun _ => rfl) rfl (hG 63 3 66 rfl rfl) ?_
  refine ev_go 1 (pc1 := 22) (lv1 := [.ref 0, .int 1, xmk]) (st1 := [.int (I 66 4)]) (h1 := (124, I, J, R)) rfl ?_
  refine ev_br (b1 := false) rfl rfl (xcd_nne (x := (I 66 4)) (y := 0) (by rw [show ((0 : Int32)).toInt = 0 from by decide]; first | exact b1 | omega)) ?_
  refine ev_go 1 (pc1 := 27) (lv1 := [.ref 0, .int 1, xmk]) (st1 := [.int (-4)]) (h1 := (124, I, J, R)) rfl ?_
  exact ev_ret rfl rfl
set_option maxRecDepth 20000 in
theorem kX_r1 {L : Nat} {xs : Nat → Int32} {d : Nat} {I : Nat → Nat → Int32} {J : Nat → Nat → Int64} {R : Nat → Nat → Nat} (hG : aGd R) (b1 : (I 66 4).toInt ≠ 0) (c1 : xEv L xs d 136 0 [.ref 63, .int 1] [] (124, I, J, R) (some (.ref 76)) (124, I, J, R)) (c2 : xEv L xs d 137 0 [.ref 76, .ref 66] [] (124, I, J, R) none (124, (uC (uC (uC (uC (uI (uI (uI I 76 4 (I 66 4)) 76 5 (I 66 5)) 76 6 (I 66 6)) 67 77 4) 68 78 4) 69 79 4) 70 80 4), (uL J 76 7 (J 66 7)), R)) : xEv L xs (d + 1) 135 0 [.ref 0, .int 1, xmk] [] (124, I, J, R) (some (.int (I 66 5))) (124, (uC (uC (uC (uC (uI (uI (uI I 76 4 (I 66 4)) 76 5 (I 66 5)) 76 6 (I 66 6)) 67 77 4) 68 78 4) 69 79 4) 70 80 4), (uL J 76 7 (J 66 7)), R) := by
  refine ev_go 6 (pc1 := 13) (lv1 := [.ref 0, .int 1, xmk]) (st1 := [.ref 0]) (h1 := (124, I, J, R)) rfl ?_
  refine ev_gf (c := 0) (t := 63) (X := R 0 7) rfl rfl (fun _ => rfl) rfl (hG 0 7 63 rfl rfl) ?_
  refine ev_gf (c := 63) (t := 66) (X := R 63 3) rfl rfl (fun _ => rfl) rfl (hG 63 3 66 rfl rfl) ?_
  refine ev_go 1 (pc1 := 22) (lv1 := [.ref 0, .int 1, xmk]) (st1 := [.int (I 66 4)]) (h1 := (124, I, J, R)) rfl ?_
  refine ev_br (b1 := true) rfl rfl (xcd_ne (x := (I 66 4)) (y := 0) (by rw [show ((0 : Int32)).toInt = 0 from by decide]; first | exact b1 | omega)) ?_
  refine ev_go 1 (pc1 := 29) (lv1 := [.ref 0, .int 1, xmk]) (st1 := [.ref 0]) (h1 := (124, I, J, R)) rfl ?_
  refine ev_gf (c := 0) (t := 63) (X := R 0 7) rfl rfl (fun _ => rfl) rfl (hG 0 7 63 rfl rfl) ?_
  refine ev_go 1 (pc1 := 33) (lv1 := [.ref 0, .int 1, xmk]) (st1 := [.int 1, .ref 63]) (h1 := (124, I, J, R)) rfl ?_
  refine ev_call (v1 := (some (.ref 76))) (h1 := (124, I, J, R)) rfl rfl c1 ?_
  refine ev_go 3 (pc1 := 39) (lv1 := [.ref 0, .int 1, .ref 76]) (st1 := [.ref 0, .ref 76]) (h1 := (124, I, J, R)) rfl ?_
  refine ev_gf (c := 0) (t := 63) (X := R 0 7) rfl rfl (fun _ => rfl) rfl (hG 0 7 63 rfl rfl) ?_
  refine ev_gf (c := 63) (t := 66) (X := R 63 3) rfl rfl (fun _ => rfl) rfl (hG 63 3 66 rfl rfl) ?_
  refine ev_call (v1 := none) (h1 := (124, (uC (uC (uC (uC (uI (uI (uI I 76 4 (I 66 4)) 76 5 (I 66 5)) 76 6 (I 66 6)) 67 77 4) 68 78 4) 69 79 4) 70 80 4), (uL J 76 7 (J 66 7)), R)) rfl rfl c2 ?_
  refine ev_go 2 (pc1 := 52) (lv1 := [.ref 0, .int 1, .ref 76]) (st1 := [.int (I 66 5)]) (h1 := (124, (uC (uC (uC (uC (uI (uI (uI I 76 4 (I 66 4)) 76 5 (I 66 5)) 76 6 (I 66 6)) 67 77 4) 68 78 4) 69 79 4) 70 80 4), (uL J 76 7 (J 66 7)), R)) rfl ?_
  exact ev_ret rfl rfl
set_option maxRecDepth 20000 in
theorem kM_o1 {L : Nat} {xs : Nat → Int32} {d : Nat} {I : Nat → Nat → Int32} {J : Nat → Nat → Int64} {R : Nat → Nat → Nat} (hG : aGd R) (c1 : xEv L xs d 234 0 [.int 1] [] (124, I, J, R) (some (.int 1)) (124, I, J, R)) (b1 : (I 121 0).toInt = 0) : xEv L xs (d + 1) 233 0 [.ref 86, .int 1, xmk] [] (124, I, J, R) (some (.int (-4))) (124, I, J, R) := by
  refine ev_go 1 (pc1 := 1) (lv1 := [.ref 86, .int 1, xmk]) (st1 := [.int 1]) (h1 := (124, I, J, R)) rfl ?_
  refine ev_call (v1 := (some (.int 1))) (h1 := (124, I, J, R)) rfl rfl c1 ?_
  refine ev_go 2 (pc1 := 11) (lv1 := [.ref 86, .int 1, xmk]) (st1 := [.ref 86]) (h1 := (124, I, J, R)) rfl ?_
  refine ev_gf (c := 86) (t := 121) (X := R 86 56) rfl rfl (fun _ => rfl) rfl (hG 86 56 121 rfl rfl) ?_
  refine ev_go 2 (pc1 := 16) (lv1 := [.ref 86, .int 1, xmk]) (st1 := [.int (I 121 0)]) (h1 := (124, I, J, R)) rfl ?_
  refine ev_br (b1 := false) rfl rfl (xcd_nne (x := (I 121 0)) (y := 0) (by rw [show ((0 : Int32)).toInt = 0 from by decide]; first | exact b1 | omega)) ?_
  refine ev_go 1 (pc1 := 21) (lv1 := [.ref 86, .int 1, xmk]) (st1 := [.int (-4)]) (h1 := (124, I, J, R)) rfl ?_
  exact ev_ret rfl rfl
set_option maxRecDepth 20000 in
theorem kM_r1 {L : Nat} {xs : Nat → Int32} {d : Nat} {I : Nat → Nat → Int32} {J : Nat → Nat → Int64} {R : Nat → Nat → Nat} (hG : aGd R) (c1 : xEv L xs d 234 0 [.int 1] [] (124, I, J, R) (some (.int 1)) (124, I, J, R)) (b1 : (I 121 0).toInt ≠ 0) : xEv L xs (d + 1) 233 0 [.ref 86, .int 1, xmk] [] (124, I, J, R) (some (.int (I 121 1))) (124, (uI (uI (uI (uI (uI (uI (uI (uI (uI (uI (uI (uI (uI (uI (uI (uI (uI (uI (uI (uI (uI (uI (uI (uI (uI (uI I 123 1 (vp_nar .boolean 1)) 121 50 (I 121 0)) 121 51 (I 121 1)) 121 52 (I 121 2)) 121 53 (I 121 3)) 121 54 (I 121 4)) 121 55 (I 121 5)) 121 56 (I 121 6)) 121 57 (I 121 7)) 121 58 (I 121 8)) 121 59 (I 121 9)) 121 60 (I 121 10)) 121 61 (I 121 11)) 121 62 (I 121 12)) 121 63 (I 121 13)) 121 64 (I 121 14)) 121 65 (I 121 15)) 121 66 (I 121 16)) 121 67 (I 121 17)) 121 68 (I 121 18)) 121 69 (I 121 19)) 121 70 (I 121 20)) 121 71 (I 121 21)) 121 72 (I 121 22)) 121 73 (I 121 23)) 121 74 (I 121 24)), (uL J 122 2 (J 122 0)), R) := by
  refine ev_go 1 (pc1 := 1) (lv1 := [.ref 86, .int 1, xmk]) (st1 := [.int 1]) (h1 := (124, I, J, R)) rfl ?_
  refine ev_call (v1 := (some (.int 1))) (h1 := (124, I, J, R)) rfl rfl c1 ?_
  refine ev_go 2 (pc1 := 11) (lv1 := [.ref 86, .int 1, xmk]) (st1 := [.ref 86]) (h1 := (124, I, J, R)) rfl ?_
  refine ev_gf (c := 86) (t := 121) (X := R 86 56) rfl rfl (fun _ => rfl) rfl (hG 86 56 121 rfl rfl) ?_
  refine ev_go 2 (pc1 := 16) (lv1 := [.ref 86, .int 1, xmk]) (st1 := [.int (I 121 0)]) (h1 := (124, I, J, R)) rfl ?_
  refine ev_br (b1 := true) rfl rfl (xcd_ne (x := (I 121 0)) (y := 0) (by rw [show ((0 : Int32)).toInt = 0 from by decide]; first | exact b1 | omega)) ?_
  refine ev_go 1 (pc1 := 23) (lv1 := [.ref 86, .int 1, xmk]) (st1 := [.ref 86]) (h1 := (124, I, J, R)) rfl ?_
  refine ev_gf (c := 86) (t := 123) (X := R 86 58) rfl rfl (fun _ => rfl) rfl (hG 86 58 123 rfl rfl) ?_
  refine ev_go 9 (pc1 := 38) (lv1 := [.ref 86, .int 1, .int 0]) (st1 := [.ref 86]) (h1 := (124, (uI I 123 1 (vp_nar .boolean 1)), J, R)) rfl ?_
  refine ev_gf (c := 86) (t := 121) (X := R 86 56) rfl rfl (fun _ => rfl) rfl (hG 86 56 121 rfl rfl) ?_
  refine ev_go 8 (pc1 := 50) (lv1 := [.ref 86, .int 1, .int 0]) (st1 := [.ref 86, .int 50, .ref 121]) (h1 := (124, (uI I 123 1 (vp_nar .boolean 1)), J, R)) rfl ?_
  refine ev_gf (c := 86) (t := 121) (X := R 86 56) rfl rfl (fun _ => rfl) rfl (hG 86 56 121 rfl rfl) ?_
  refine ev_go 9 (pc1 := 38) (lv1 := [.ref 86, .int 1, .int 1]) (st1 := [.ref 86]) (h1 := (124, (uI (uI I 123 1 (vp_nar .boolean 1)) 121 50 (I 121 0)), J, R)) rfl ?_
  refine ev_gf (c := 86) (t := 121) (X := R 86 56) rfl rfl (fun _ => rfl) rfl (hG 86 56 121 rfl rfl) ?_
  refine ev_go 8 (pc1 := 50) (lv1 := [.ref 86, .int 1, .int 1]) (st1 := [.ref 86, .int 51, .ref 121]) (h1 := (124, (uI (uI I 123 1 (vp_nar .boolean 1)) 121 50 (I 121 0)), J, R)) rfl ?_
  refine ev_gf (c := 86) (t := 121) (X := R 86 56) rfl rfl (fun _ => rfl) rfl (hG 86 56 121 rfl rfl) ?_
  refine ev_go 9 (pc1 := 38) (lv1 := [.ref 86, .int 1, .int 2]) (st1 := [.ref 86]) (h1 := (124, (uI (uI (uI I 123 1 (vp_nar .boolean 1)) 121 50 (I 121 0)) 121 51 (I 121 1)), J, R)) rfl ?_
  refine ev_gf (c := 86) (t := 121) (X := R 86 56) rfl rfl (fun _ => rfl) rfl (hG 86 56 121 rfl rfl) ?_
  refine ev_go 8 (pc1 := 50) (lv1 := [.ref 86, .int 1, .int 2]) (st1 := [.ref 86, .int 52, .ref 121]) (h1 := (124, (uI (uI (uI I 123 1 (vp_nar .boolean 1)) 121 50 (I 121 0)) 121 51 (I 121 1)), J, R)) rfl ?_
  refine ev_gf (c := 86) (t := 121) (X := R 86 56) rfl rfl (fun _ => rfl) rfl (hG 86 56 121 rfl rfl) ?_
  refine ev_go 9 (pc1 := 38) (lv1 := [.ref 86, .int 1, .int 3]) (st1 := [.ref 86]) (h1 := (124, (uI (uI (uI (uI I 123 1 (vp_nar .boolean 1)) 121 50 (I 121 0)) 121 51 (I 121 1)) 121 52 (I 121 2)), J, R)) rfl ?_
  refine ev_gf (c := 86) (t := 121) (X := R 86 56) rfl rfl (fun _ => rfl) rfl (hG 86 56 121 rfl rfl) ?_
  refine ev_go 8 (pc1 := 50) (lv1 := [.ref 86, .int 1, .int 3]) (st1 := [.ref 86, .int 53, .ref 121]) (h1 := (124, (uI (uI (uI (uI I 123 1 (vp_nar .boolean 1)) 121 50 (I 121 0)) 121 51 (I 121 1)) 121 52 (I 121 2)), J, R)) rfl ?_
  refine ev_gf (c := 86) (t := 121) (X := R 86 56) rfl rfl (fun _ => rfl) rfl (hG 86 56 121 rfl rfl) ?_
  refine ev_go 9 (pc1 := 38) (lv1 := [.ref 86, .int 1, .int 4]) (st1 := [.ref 86]) (h1 := (124, (uI (uI (uI (uI (uI I 123 1 (vp_nar .boolean 1)) 121 50 (I 121 0)) 121 51 (I 121 1)) 121 52 (I 121 2)) 121 53 (I 121 3)), J, R)) rfl ?_
  refine ev_gf (c := 86) (t := 121) (X := R 86 56) rfl rfl (fun _ => rfl) rfl (hG 86 56 121 rfl rfl) ?_
  refine ev_go 8 (pc1 := 50) (lv1 := [.ref 86, .int 1, .int 4]) (st1 := [.ref 86, .int 54, .ref 121]) (h1 := (124, (uI (uI (uI (uI (uI I 123 1 (vp_nar .boolean 1)) 121 50 (I 121 0)) 121 51 (I 121 1)) 121 52 (I 121 2)) 121 53 (I 121 3)), J, R)) rfl ?_
  refine ev_gf (c := 86) (t := 121) (X := R 86 56) rfl rfl (fun _ => rfl) rfl (hG 86 56 121 rfl rfl) ?_
  refine ev_go 9 (pc1 := 38) (lv1 := [.ref 86, .int 1, .int 5]) (st1 := [.ref 86]) (h1 := (124, (uI (uI (uI (uI (uI (uI I 123 1 (vp_nar .boolean 1)) 121 50 (I 121 0)) 121 51 (I 121 1)) 121 52 (I 121 2)) 121 53 (I 121 3)) 121 54 (I 121 4)), J, R)) rfl ?_
  refine ev_gf (c := 86) (t := 121) (X := R 86 56) rfl rfl (fun _ => rfl) rfl (hG 86 56 121 rfl rfl) ?_
  refine ev_go 8 (pc1 := 50) (lv1 := [.ref 86, .int 1, .int 5]) (st1 := [.ref 86, .int 55, .ref 121]) (h1 := (124, (uI (uI (uI (uI (uI (uI I 123 1 (vp_nar .boolean 1)) 121 50 (I 121 0)) 121 51 (I 121 1)) 121 52 (I 121 2)) 121 53 (I 121 3)) 121 54 (I 121 4)), J, R)) rfl ?_
  refine ev_gf (c := 86) (t := 121) (X := R 86 56) rfl rfl (fun _ => rfl) rfl (hG 86 56 121 rfl rfl) ?_
  refine ev_go 9 (pc1 := 38) (lv1 := [.ref 86, .int 1, .int 6]) (st1 := [.ref 86]) (h1 := (124, (uI (uI (uI (uI (uI (uI (uI I 123 1 (vp_nar .boolean 1)) 121 50 (I 121 0)) 121 51 (I 121 1)) 121 52 (I 121 2)) 121 53 (I 121 3)) 121 54 (I 121 4)) 121 55 (I 121 5)), J, R)) rfl ?_
  refine ev_gf (c := 86) (t := 121) (X := R 86 56) rfl rfl (fun _ => rfl) rfl (hG 86 56 121 rfl rfl) ?_
  refine ev_go 8 (pc1 := 50) (lv1 := [.ref 86, .int 1, .int 6]) (st1 := [.ref 86, .int 56, .ref 121]) (h1 := (124, (uI (uI (uI (uI (uI (uI (uI I 123 1 (vp_nar .boolean 1)) 121 50 (I 121 0)) 121 51 (I 121 1)) 121 52 (I 121 2)) 121 53 (I 121 3)) 121 54 (I 121 4)) 121 55 (I 121 5)), J, R)) rfl ?_
  refine ev_gf (c := 86) (t := 121) (X := R 86 56) rfl rfl (fun _ => rfl) rfl (hG 86 56 121 rfl rfl) ?_
  refine ev_go 9 (pc1 := 38) (lv1 := [.ref 86, .int 1, .int 7]) (st1 := [.ref 86]) (h1 := (124, (uI (uI (uI (uI (uI (uI (uI (uI I 123 1 (vp_nar .boolean 1)) 121 50 (I 121 0)) 121 51 (I 121 1)) 121 52 (I 121 2)) 121 53 (I 121 3)) 121 54 (I 121 4)) 121 55 (I 121 5)) 121 56 (I 121 6)), J, R)) rfl ?_
  refine ev_gf (c := 86) (t := 121) (X := R 86 56) rfl rfl (fun _ => rfl) rfl (hG 86 56 121 rfl rfl) ?_
  refine ev_go 8 (pc1 := 50) (lv1 := [.ref 86, .int 1, .int 7]) (st1 := [.ref 86, .int 57, .ref 121]) (h1 := (124, (uI (uI (uI (uI (uI (uI (uI (uI I 123 1 (vp_nar .boolean 1)) 121 50 (I 121 0)) 121 51 (I 121 1)) 121 52 (I 121 2)) 121 53 (I 121 3)) 121 54 (I 121 4)) 121 55 (I 121 5)) 121 56 (I 121 6)), J, R)) rfl ?_
  refine ev_gf (c := 86) (t := 121) (X := R 86 56) rfl rfl (fun _ => rfl) rfl (hG 86 56 121 rfl rfl) ?_
  refine ev_go 9 (pc1 := 38) (lv1 := [.ref 86, .int 1, .int 8]) (st1 := [.ref 86]) (h1 := (124, (uI (uI (uI (uI (uI (uI (uI (uI (uI I 123 1 (vp_nar .boolean 1)) 121 50 (I 121 0)) 121 51 (I 121 1)) 121 52 (I 121 2)) 121 53 (I 121 3)) 121 54 (I 121 4)) 121 55 (I 121 5)) 121 56 (I 121 6)) 121 57 (I 121 7)), J, R)) rfl ?_
  refine ev_gf (c := 86) (t := 121) (X := R 86 56) rfl rfl (fun _ => rfl) rfl (hG 86 56 121 rfl rfl) ?_
  refine ev_go 8 (pc1 := 50) (lv1 := [.ref 86, .int 1, .int 8]) (st1 := [.ref 86, .int 58, .ref 121]) (h1 := (124, (uI (uI (uI (uI (uI (uI (uI (uI (uI I 123 1 (vp_nar .boolean 1)) 121 50 (I 121 0)) 121 51 (I 121 1)) 121 52 (I 121 2)) 121 53 (I 121 3)) 121 54 (I 121 4)) 121 55 (I 121 5)) 121 56 (I 121 6)) 121 57 (I 121 7)), J, R)) rfl ?_
  refine ev_gf (c := 86) (t := 121) (X := R 86 56) rfl rfl (fun _ => rfl) rfl (hG 86 56 121 rfl rfl) ?_
  refine ev_go 9 (pc1 := 38) (lv1 := [.ref 86, .int 1, .int 9]) (st1 := [.ref 86]) (h1 := (124, (uI (uI (uI (uI (uI (uI (uI (uI (uI (uI I 123 1 (vp_nar .boolean 1)) 121 50 (I 121 0)) 121 51 (I 121 1)) 121 52 (I 121 2)) 121 53 (I 121 3)) 121 54 (I 121 4)) 121 55 (I 121 5)) 121 56 (I 121 6)) 121 57 (I 121 7)) 121 58 (I 121 8)), J, R)) rfl ?_
  refine ev_gf (c := 86) (t := 121) (X := R 86 56) rfl rfl (fun _ => rfl) rfl (hG 86 56 121 rfl rfl) ?_
  refine ev_go 8 (pc1 := 50) (lv1 := [.ref 86, .int 1, .int 9]) (st1 := [.ref 86, .int 59, .ref 121]) (h1 := (124, (uI (uI (uI (uI (uI (uI (uI (uI (uI (uI I 123 1 (vp_nar .boolean 1)) 121 50 (I 121 0)) 121 51 (I 121 1)) 121 52 (I 121 2)) 121 53 (I 121 3)) 121 54 (I 121 4)) 121 55 (I 121 5)) 121 56 (I 121 6)) 121 57 (I 121 7)) 121 58 (I 121 8)), J, R)) rfl ?_
  refine ev_gf (c := 86) (t := 121) (X := R 86 56) rfl rfl (fun _ => rfl) rfl (hG 86 56 121 rfl rfl) ?_
  refine ev_go 9 (pc1 := 38) (lv1 := [.ref 86, .int 1, .int 10]) (st1 := [.ref 86]) (h1 := (124, (uI (uI (uI (uI (uI (uI (uI (uI (uI (uI (uI I 123 1 (vp_nar .boolean 1)) 121 50 (I 121 0)) 121 51 (I 121 1)) 121 52 (I 121 2)) 121 53 (I 121 3)) 121 54 (I 121 4)) 121 55 (I 121 5)) 121 56 (I 121 6)) 121 57 (I 121 7)) 121 58 (I 121 8)) 121 59 (I 121 9)), J, R)) rfl ?_
  refine ev_gf (c := 86) (t := 121) (X := R 86 56) rfl rfl (fun _ => rfl) rfl (hG 86 56 121 rfl rfl) ?_
  refine ev_go 8 (pc1 := 50) (lv1 := [.ref 86, .int 1, .int 10]) (st1 := [.ref 86, .int 60, .ref 121]) (h1 := (124, (uI (uI (uI (uI (uI (uI (uI (uI (uI (uI (uI I 123 1 (vp_nar .boolean 1)) 121 50 (I 121 0)) 121 51 (I 121 1)) 121 52 (I 121 2)) 121 53 (I 121 3)) 121 54 (I 121 4)) 121 55 (I 121 5)) 121 56 (I 121 6)) 121 57 (I 121 7)) 121 58 (I 121 8)) 121 59 (I 121 9)), J, R)) rfl ?_
  refine ev_gf (c := 86) (t := 121) (X := R 86 56) rfl rfl (fun _ => rfl) rfl (hG 86 56 121 rfl rfl) ?_
  refine ev_go 9 (pc1 := 38) (lv1 := [.ref 86, .int 1, .int 11]) (st1 := [.ref 86]) (h1 := (124, (uI (uI (uI (uI (uI (uI (uI (uI (uI (uI (uI (uI I 123 1 (vp_nar .boolean 1)) 121 50 (I 121 0)) 121 51 (I 121 1)) 121 52 (I 121 2)) 121 53 (I 121 3)) 121 54 (I 121 4)) 121 55 (I 121 5)) 121 56 (I 121 6)) 121 57 (I 121 7)) 121 58 (I 121 8)) 121 59 (I 121 9)) 121 60 (I 121 10)), J, R)) rfl ?_
  refine ev_gf (c := 86) (t := 121) (X := R 86 56) rfl rfl (fun _ => rfl) rfl (hG 86 56 121 rfl rfl) ?_
  refine ev_go 8 (pc1 := 50) (lv1 := [.ref 86, .int 1, .int 11]) (st1 := [.ref 86, .int 61, .ref 121]) (h1 := (124, (uI (uI (uI (uI (uI (uI (uI (uI (uI (uI (uI (uI I 123 1 (vp_nar .boolean 1)) 121 50 (I 121 0)) 121 51 (I 121 1)) 121 52 (I 121 2)) 121 53 (I 121 3)) 121 54 (I 121 4)) 121 55 (I 121 5)) 121 56 (I 121 6)) 121 57 (I 121 7)) 121 58 (I 121 8)) 121 59 (I 121 9)) 121 60 (I 121 10)), J, R)) rfl ?_
  refine ev_gf (c := 86) (t := 121) (X := R 86 56) rfl rfl (fun _ => rfl) rfl (hG 86 56 121 rfl rfl) ?_
  refine ev_go 9 (pc1 := 38) (lv1 := [.ref 86, .int 1, .int 12]) (st1 := [.ref 86]) (h1 := (124, (uI (uI (uI (uI (uI (uI (uI (uI (uI (uI (uI (uI (uI I 123 1 (vp_nar .boolean 1)) 121 50 (I 121 0)) 121 51 (I 121 1)) 121 52 (I 121 2)) 121 53 (I 121 3)) 121 54 (I 121 4)) 121 55 (I 121 5)) 121 56 (I 121 6)) 121 57 (I 121 7)) 121 58 (I 121 8)) 121 59 (I 121 9)) 121 60 (I 121 10)) 121 61 (I 121 11)), J, R)) rfl ?_
  refine ev_gf (c := 86) (t := 121) (X := R 86 56) rfl rfl (fun _ => rfl) rfl (hG 86 56 121 rfl rfl) ?_
  refine ev_go 8 (pc1 := 50) (lv1 := [.ref 86, .int 1, .int 12]) (st1 := [.ref 86, .int 62, .ref 121]) (h1 := (124, (uI (uI (uI (uI (uI (uI (uI (uI (uI (uI (uI (uI (uI I 123 1 (vp_nar .boolean 1)) 121 50 (I 121 0)) 121 51 (I 121 1)) 121 52 (I 121 2)) 121 53 (I 121 3)) 121 54 (I 121 4)) 121 55 (I 121 5)) 121 56 (I 121 6)) 121 57 (I 121 7)) 121 58 (I 121 8)) 121 59 (I 121 9)) 121 60 (I 121 10)) 121 61 (I 121 11)), J, R)) rfl ?_
  refine ev_gf (c := 86) (t := 121) (X := R 86 56) rfl rfl (fun _ => rfl) rfl (hG 86 56 121 rfl rfl) ?_
  refine ev_go 9 (pc1 := 38) (lv1 := [.ref 86, .int 1, .int 13]) (st1 := [.ref 86]) (h1 := (124, (uI (uI (uI (uI (uI (uI (uI (uI (uI (uI (uI (uI (uI (uI I 123 1 (vp_nar .boolean 1)) 121 50 (I 121 0)) 121 51 (I 121 1)) 121 52 (I 121 2)) 121 53 (I 121 3)) 121 54 (I 121 4)) 121 55 (I 121 5)) 121 56 (I 121 6)) 121 57 (I 121 7)) 121 58 (I 121 8)) 121 59 (I 121 9)) 121 60 (I 121 10)) 121 61 (I 121 11)) 121 62 (I 121 12)), J, R)) rfl ?_
  refine ev_gf (c := 86) (t := 121) (X := R 86 56) rfl rfl (fun _ => rfl) rfl (hG 86 56 121 rfl rfl) ?_
  refine ev_go 8 (pc1 := 50) (lv1 := [.ref 86, .int 1, .int 13]) (st1 := [.ref 86, .int 63, .ref 121]) (h1 := (124, (uI (uI (uI (uI (uI (uI (uI (uI (uI (uI (uI (uI (uI (uI I 123 1 (vp_nar .boolean 1)) 121 50 (I 121 0)) 121 51 (I 121 1)) 121 52 (I 121 2)) 121 53 (I 121 3)) 121 54 (I 121 4)) 121 55 (I 121 5)) 121 56 (I 121 6)) 121 57 (I 121 7)) 121 58 (I 121 8)) 121 59 (I 121 9)) 121 60 (I 121 10)) 121 61 (I 121 11)) 121 62 (I 121 12)), J, R)) rfl ?_
  refine ev_gf (c := 86) (t := 121) (X := R 86 56) rfl rfl (fun _ => rfl) rfl (hG 86 56 121 rfl rfl) ?_
  refine ev_go 9 (pc1 := 38) (lv1 := [.ref 86, .int 1, .int 14]) (st1 := [.ref 86]) (h1 := (124, (uI (uI (uI (uI (uI (uI (uI (uI (uI (uI (uI (uI (uI (uI (uI I 123 1 (vp_nar .boolean 1)) 121 50 (I 121 0)) 121 51 (I 121 1)) 121 52 (I 121 2)) 121 53 (I 121 3)) 121 54 (I 121 4)) 121 55 (I 121 5)) 121 56 (I 121 6)) 121 57 (I 121 7)) 121 58 (I 121 8)) 121 59 (I 121 9)) 121 60 (I 121 10)) 121 61 (I 121 11)) 121 62 (I 121 12)) 121 63 (I 121 13)), J, R)) rfl ?_
  refine ev_gf (c := 86) (t := 121) (X := R 86 56) rfl rfl (fun _ => rfl) rfl (hG 86 56 121 rfl rfl) ?_
  refine ev_go 8 (pc1 := 50) (lv1 := [.ref 86, .int 1, .int 14]) (st1 := [.ref 86, .int 64, .ref 121]) (h1 := (124, (uI (uI (uI (uI (uI (uI (uI (uI (uI (uI (uI (uI (uI (uI (uI I 123 1 (vp_nar .boolean 1)) 121 50 (I 121 0)) 121 51 (I 121 1)) 121 52 (I 121 2)) 121 53 (I 121 3)) 121 54 (I 121 4)) 121 55 (I 121 5)) 121 56 (I 121 6)) 121 57 (I 121 7)) 121 58 (I 121 8)) 121 59 (I 121 9)) 121 60 (I 121 10)) 121 61 (I 121 11)) 121 62 (I 121 12)) 121 63 (I 121 13)), J, R)) rfl ?_
  refine ev_gf (c := 86) (t := 121) (X := R 86 56) rfl rfl (fun _ => rfl) rfl (hG 86 56 121 rfl rfl) ?_
  refine ev_go 9 (pc1 := 38) (lv1 := [.ref 86, .int 1, .int 15]) (st1 := [.ref 86]) (h1 := (124, (uI (uI (uI (uI (uI (uI (uI (uI (uI (uI (uI (uI (uI (uI (uI (uI I 123 1 (vp_nar .boolean 1)) 121 50 (I 121 0)) 121 51 (I 121 1)) 121 52 (I 121 2)) 121 53 (I 121 3)) 121 54 (I 121 4)) 121 55 (I 121 5)) 121 56 (I 121 6)) 121 57 (I 121 7)) 121 58 (I 121 8)) 121 59 (I 121 9)) 121 60 (I 121 10)) 121 61 (I 121 11)) 121 62 (I 121 12)) 121 63 (I 121 13)) 121 64 (I 121 14)), J, R)) rfl ?_
  refine ev_gf (c := 86) (t := 121) (X := R 86 56) rfl rfl (fun _ => rfl) rfl (hG 86 56 121 rfl rfl) ?_
  refine ev_go 8 (pc1 := 50) (lv1 := [.ref 86, .int 1, .int 15]) (st1 := [.ref 86, .int 65, .ref 121]) (h1 := (124, (uI (uI (uI (uI (uI (uI (uI (uI (uI (uI (uI (uI (uI (uI (uI (uI I 123 1 (vp_nar .boolean 1)) 121 50 (I 121 0)) 121 51 (I 121 1)) 121 52 (I 121 2)) 121 53 (I 121 3)) 121 54 (I 121 4)) 121 55 (I 121 5)) 121 56 (I 121 6)) 121 57 (I 121 7)) 121 58 (I 121 8)) 121 59 (I 121 9)) 121 60 (I 121 10)) 121 61 (I 121 11)) 121 62 (I 121 12)) 121 63 (I 121 13)) 121 64 (I 121 14)), J, R)) rfl ?_
  refine ev_gf (c := 86) (t := 121) (X := R 86 56) rfl rfl (fun _ => rfl) rfl (hG 86 56 121 rfl rfl) ?_
  refine ev_go 9 (pc1 := 38) (lv1 := [.ref 86, .int 1, .int 16]) (st1 := [.ref 86]) (h1 := (124, (uI (uI (uI (uI (uI (uI (uI (uI (uI (uI (uI (uI (uI (uI (uI (uI (uI I 123 1 (vp_nar .boolean 1)) 121 50 (I 121 0)) 121 51 (I 121 1)) 121 52 (I 121 2)) 121 53 (I 121 3)) 121 54 (I 121 4)) 121 55 (I 121 5)) 121 56 (I 121 6)) 121 57 (I 121 7)) 121 58 (I 121 8)) 121 59 (I 121 9)) 121 60 (I 121 10)) 121 61 (I 121 11)) 121 62 (I 121 12)) 121 63 (I 121 13)) 121 64 (I 121 14)) 121 65 (I 121 15)), J, R)) rfl ?_
  refine ev_gf (c := 86) (t := 121) (X := R 86 56) rfl rfl (fun _ => rfl) rfl (hG 86 56 121 rfl rfl) ?_
  refine ev_go 8 (pc1 := 50) (lv1 := [.ref 86, .int 1, .int 16]) (st1 := [.ref 86, .int 66, .ref 121]) (h1 := (124, (uI (uI (uI (uI (uI (uI (uI (uI (uI (uI (uI (uI (uI (uI (uI (uI (uI I 123 1 (vp_nar .boolean 1)) 121 50 (I 121 0)) 121 51 (I 121 1)) 121 52 (I 121 2)) 121 53 (I 121 3)) 121 54 (I 121 4)) 121 55 (I 121 5)) 121 56 (I 121 6)) 121 57 (I 121 7)) 121 58 (I 121 8)) 121 59 (I 121 9)) 121 60 (I 121 10)) 121 61 (I 121 11)) 121 62 (I 121 12)) 121 63 (I 121 13)) 121 64 (I 121 14)) 121 65 (I 121 15)), J, R)) rfl ?_
  refine ev_gf (c := 86) (t := 121) (X := R 86 56) rfl rfl (fun _ => rfl) rfl (hG 86 56 121 rfl rfl) ?_
  refine ev_go 9 (pc1 := 38) (lv1 := [.ref 86, .int 1, .int 17]) (st1 := [.ref 86]) (h1 := (124, (uI (uI (uI (uI (uI (uI (uI (uI (uI (uI (uI (uI (uI (uI (uI (uI (uI (uI I 123 1 (vp_nar .boolean 1)) 121 50 (I 121 0)) 121 51 (I 121 1)) 121 52 (I 121 2)) 121 53 (I 121 3)) 121 54 (I 121 4)) 121 55 (I 121 5)) 121 56 (I 121 6)) 121 57 (I 121 7)) 121 58 (I 121 8)) 121 59 (I 121 9)) 121 60 (I 121 10)) 121 61 (I 121 11)) 121 62 (I 121 12)) 121 63 (I 121 13)) 121 64 (I 121 14)) 121 65 (I 121 15)) 121 66 (I 121 16)), J, R)) rfl ?_
  refine ev_gf (c := 86) (t := 121) (X := R 86 56) rfl rfl (fun _ => rfl) rfl (hG 86 56 121 rfl rfl) ?_
  refine ev_go 8 (pc1 := 50) (lv1 := [.ref 86, .int 1, .int 17]) (st1 := [.ref 86, .int 67, .ref 121]) (h1 := (124, (uI (uI (uI (uI (uI (uI (uI (uI (uI (uI (uI (uI (uI (uI (uI (uI (uI (uI I 123 1 (vp_nar .boolean 1)) 121 50 (I 121 0)) 121 51 (I 121 1)) 121 52 (I 121 2)) 121 53 (I 121 3)) 121 54 (I 121 4)) 121 55 (I 121 5)) 121 56 (I 121 6)) 121 57 (I 121 7)) 121 58 (I 121 8)) 121 59 (I 121 9)) 121 60 (I 121 10)) 121 61 (I 121 11)) 121 62 (I 121 12)) 121 63 (I 121 13)) 121 64 (I 121 14)) 121 65 (I 121 15)) 121 66 (I 121 16)), J, R)) rfl ?_
  refine ev_gf (c := 86) (t := 121) (X := R 86 56) rfl rfl (fun _ => rfl) rfl (hG 86 56 121 rfl rfl) ?_
  refine ev_go 9 (pc1 := 38) (lv1 := [.ref 86, .int 1, .int 18]) (st1 := [.ref 86]) (h1 := (124, (uI (uI (uI (uI (uI (uI (uI (uI (uI (uI (uI (uI (uI (uI (uI (uI (uI (uI (uI I 123 1 (vp_nar .boolean 1)) 121 50 (I 121 0)) 121 51 (I 121 1)) 121 52 (I 121 2)) 121 53 (I 121 3)) 121 54 (I 121 4)) 121 55 (I 121 5)) 121 56 (I 121 6)) 121 57 (I 121 7)) 121 58 (I 121 8)) 121 59 (I 121 9)) 121 60 (I 121 10)) 121 61 (I 121 11)) 121 62 (I 121 12)) 121 63 (I 121 13)) 121 64 (I 121 14)) 121 65 (I 121 15)) 121 66 (I 121 16)) 121 67 (I 121 17)), J, R)) rfl ?_
  refine ev_gf (c := 86) (t := 121) (X := R 86 56) rfl rfl (fun _ => rfl) rfl (hG 86 56 121 rfl rfl) ?_
  refine ev_go 8 (pc1 := 50) (lv1 := [.ref 86, .int 1, .int 18]) (st1 := [.ref 86, .int 68, .ref 121]) (h1 := (124, (uI (uI (uI (uI (uI (uI (uI (uI (uI (uI (uI (uI (uI (uI (uI (uI (uI (uI (uI I 123 1 (vp_nar .boolean 1)) 121 50 (I 121 0)) 121 51 (I 121 1)) 121 52 (I 121 2)) 121 53 (I 121 3)) 121 54 (I 121 4)) 121 55 (I 121 5)) 121 56 (I 121 6)) 121 57 (I 121 7)) 121 58 (I 121 8)) 121 59 (I 121 9)) 121 60 (I 121 10)) 121 61 (I 121 11)) 121 62 (I 121 12)) 121 63 (I 121 13)) 121 64 (I 121 14)) 121 65 (I 121 15)) 121 66 (I 121 16)) 121 67 (I 121 17)), J, R)) rfl ?_
  refine ev_gf (c := 86) (t := 121) (X := R 86 56) rfl rfl (fun _ => rfl) rfl (hG 86 56 121 rfl rfl) ?_
  refine ev_go 9 (pc1 := 38) (lv1 := [.ref 86, .int 1, .int 19]) (st1 := [.ref 86]) (h1 := (124, (uI (uI (uI (uI (uI (uI (uI (uI (uI (uI (uI (uI (uI (uI (uI (uI (uI (uI (uI (uI I 123 1 (vp_nar .boolean 1)) 121 50 (I 121 0)) 121 51 (I 121 1)) 121 52 (I 121 2)) 121 53 (I 121 3)) 121 54 (I 121 4)) 121 55 (I 121 5)) 121 56 (I 121 6)) 121 57 (I 121 7)) 121 58 (I 121 8)) 121 59 (I 121 9)) 121 60 (I 121 10)) 121 61 (I 121 11)) 121 62 (I 121 12)) 121 63 (I 121 13)) 121 64 (I 121 14)) 121 65 (I 121 15)) 121 66 (I 121 16)) 121 67 (I 121 17)) 121 68 (I 121 18)), J, R)) rfl ?_
  refine ev_gf (c := 86) (t := 121) (X := R 86 56) rfl rfl (fun _ => rfl) rfl (hG 86 56 121 rfl rfl) ?_
  refine ev_go 8 (pc1 := 50) (lv1 := [.ref 86, .int 1, .int 19]) (st1 := [.ref 86, .int 69, .ref 121]) (h1 := (124, (uI (uI (uI (uI (uI (uI (uI (uI (uI (uI (uI (uI (uI (uI (uI (uI (uI (uI (uI (uI I 123 1 (vp_nar .boolean 1)) 121 50 (I 121 0)) 121 51 (I 121 1)) 121 52 (I 121 2)) 121 53 (I 121 3)) 121 54 (I 121 4)) 121 55 (I 121 5)) 121 56 (I 121 6)) 121 57 (I 121 7)) 121 58 (I 121 8)) 121 59 (I 121 9)) 121 60 (I 121 10)) 121 61 (I 121 11)) 121 62 (I 121 12)) 121 63 (I 121 13)) 121 64 (I 121 14)) 121 65 (I 121 15)) 121 66 (I 121 16)) 121 67 (I 121 17)) 121 68 (I 121 18)), J, R)) rfl ?_
  refine ev_gf (c := 86) (t := 121) (X := R 86 56) rfl rfl (fun _ => rfl) rfl (hG 86 56 121 rfl rfl) ?_
  refine ev_go 9 (pc1 := 38) (lv1 := [.ref 86, .int 1, .int 20]) (st1 := [.ref 86]) (h1 := (124, (uI (uI (uI (uI (uI (uI (uI (uI (uI (uI (uI (uI (uI (uI (uI (uI (uI (uI (uI (uI (uI I 123 1 (vp_nar .boolean 1)) 121 50 (I 121 0)) 121 51 (I 121 1)) 121 52 (I 121 2)) 121 53 (I 121 3)) 121 54 (I 121 4)) 121 55 (I 121 5)) 121 56 (I 121 6)) 121 57 (I 121 7)) 121 58 (I 121 8)) 121 59 (I 121 9)) 121 60 (I 121 10)) 121 61 (I 121 11)) 121 62 (I 121 12)) 121 63 (I 121 13)) 121 64 (I 121 14)) 121 65 (I 121 15)) 121 66 (I 121 16)) 121 67 (I 121 17)) 121 68 (I 121 18)) 121 69 (I 121 19)), J, R)) rfl ?_
  refine ev_gf (c := 86) (t := 121) (X := R 86 56) rfl rfl (fun _ => rfl) rfl (hG 86 56 121 rfl rfl) ?_
  refine ev_go 8 (pc1 := 50) (lv1 := [.ref 86, .int 1, .int 20]) (st1 := [.ref 86, .int 70, .ref 121]) (h1 := (124, (uI (uI (uI (uI (uI (uI (uI (uI (uI (uI (uI (uI (uI (uI (uI (uI (uI (uI (uI (uI (uI I 123 1 (vp_nar .boolean 1)) 121 50 (I 121 0)) 121 51 (I 121 1)) 121 52 (I 121 2)) 121 53 (I 121 3)) 121 54 (I 121 4)) 121 55 (I 121 5)) 121 56 (I 121 6)) 121 57 (I 121 7)) 121 58 (I 121 8)) 121 59 (I 121 9)) 121 60 (I 121 10)) 121 61 (I 121 11)) 121 62 (I 121 12)) 121 63 (I 121 13)) 121 64 (I 121 14)) 121 65 (I 121 15)) 121 66 (I 121 16)) 121 67 (I 121 17)) 121 68 (I 121 18)) 121 69 (I 121 19)), J, R)) rfl ?_
  refine ev_gf (c := 86) (t := 121) (X := R 86 56) rfl rfl (fun _ => rfl) rfl (hG 86 56 121 rfl rfl) ?_
  refine ev_go 9 (pc1 := 38) (lv1 := [.ref 86, .int 1, .int 21]) (st1 := [.ref 86]) (h1 := (124, (uI (uI (uI (uI (uI (uI (uI (uI (uI (uI (uI (uI (uI (uI (uI (uI (uI (uI (uI (uI (uI (uI I 123 1 (vp_nar .boolean 1)) 121 50 (I 121 0)) 121 51 (I 121 1)) 121 52 (I 121 2)) 121 53 (I 121 3)) 121 54 (I 121 4)) 121 55 (I 121 5)) 121 56 (I 121 6)) 121 57 (I 121 7)) 121 58 (I 121 8)) 121 59 (I 121 9)) 121 60 (I 121 10)) 121 61 (I 121 11)) 121 62 (I 121 12)) 121 63 (I 121 13)) 121 64 (I 121 14)) 121 65 (I 121 15)) 121 66 (I 121 16)) 121 67 (I 121 17)) 121 68 (I 121 18)) 121 69 (I 121 19)) 121 70 (I 121 20)), J, R)) rfl ?_
  refine ev_gf (c := 86) (t := 121) (X := R 86 56) rfl rfl (fun _ => rfl) rfl (hG 86 56 121 rfl rfl) ?_
  refine ev_go 8 (pc1 := 50) (lv1 := [.ref 86, .int 1, .int 21]) (st1 := [.ref 86, .int 71, .ref 121]) (h1 := (124, (uI (uI (uI (uI (uI (uI (uI (uI (uI (uI (uI (uI (uI (uI (uI (uI (uI (uI (uI (uI (uI (uI I 123 1 (vp_nar .boolean 1)) 121 50 (I 121 0)) 121 51 (I 121 1)) 121 52 (I 121 2)) 121 53 (I 121 3)) 121 54 (I 121 4)) 121 55 (I 121 5)) 121 56 (I 121 6)) 121 57 (I 121 7)) 121 58 (I 121 8)) 121 59 (I 121 9)) 121 60 (I 121 10)) 121 61 (I 121 11)) 121 62 (I 121 12)) 121 63 (I 121 13)) 121 64 (I 121 14)) 121 65 (I 121 15)) 121 66 (I 121 16)) 121 67 (I 121 17)) 121 68 (I 121 18)) 121 69 (I 121 19)) 121 70 (I 121 20)), J, R)) rfl ?_
  refine ev_gf (c := 86) (t := 121) (X := R 86 56) rfl rfl (fun _ => rfl) rfl (hG 86 56 121 rfl rfl) ?_
  refine ev_go 9 (pc1 := 38) (lv1 := [.ref 86, .int 1, .int 22]) (st1 := [.ref 86]) (h1 := (124, (uI (uI (uI (uI (uI (uI (uI (uI (uI (uI (uI (uI (uI (uI (uI (uI (uI (uI (uI (uI (uI (uI (uI I 123 1 (vp_nar .boolean 1)) 121 50 (I 121 0)) 121 51 (I 121 1)) 121 52 (I 121 2)) 121 53 (I 121 3)) 121 54 (I 121 4)) 121 55 (I 121 5)) 121 56 (I 121 6)) 121 57 (I 121 7)) 121 58 (I 121 8)) 121 59 (I 121 9)) 121 60 (I 121 10)) 121 61 (I 121 11)) 121 62 (I 121 12)) 121 63 (I 121 13)) 121 64 (I 121 14)) 121 65 (I 121 15)) 121 66 (I 121 16)) 121 67 (I 121 17)) 121 68 (I 121 18)) 121 69 (I 121 19)) 121 70 (I 121 20)) 121 71 (I 121 21)), J, R)) rfl ?_
  refine ev_gf (c := 86) (t := 121) (X := R 86 56) rfl rfl (fun _ => rfl) rfl (hG 86 56 121 rfl rfl) ?_
  refine ev_go 8 (pc1 := 50) (lv1 := [.ref 86, .int 1, .int 22]) (st1 := [.ref 86, .int 72, .ref 121]) (h1 := (124, (uI (uI (uI (uI (uI (uI (uI (uI (uI (uI (uI (uI (uI (uI (uI (uI (uI (uI (uI (uI (uI (uI (uI I 123 1 (vp_nar .boolean 1)) 121 50 (I 121 0)) 121 51 (I 121 1)) 121 52 (I 121 2)) 121 53 (I 121 3)) 121 54 (I 121 4)) 121 55 (I 121 5)) 121 56 (I 121 6)) 121 57 (I 121 7)) 121 58 (I 121 8)) 121 59 (I 121 9)) 121 60 (I 121 10)) 121 61 (I 121 11)) 121 62 (I 121 12)) 121 63 (I 121 13)) 121 64 (I 121 14)) 121 65 (I 121 15)) 121 66 (I 121 16)) 121 67 (I 121 17)) 121 68 (I 121 18)) 121 69 (I 121 19)) 121 70 (I 121 20)) 121 71 (I 121 21)), J, R)) rfl ?_
  refine ev_gf (c := 86) (t := 121) (X := R 86 56) rfl rfl (fun _ => rfl) rfl (hG 86 56 121 rfl rfl) ?_
  refine ev_go 9 (pc1 := 38) (lv1 := [.ref 86, .int 1, .int 23]) (st1 := [.ref 86]) (h1 := (124, (uI (uI (uI (uI (uI (uI (uI (uI (uI (uI (uI (uI (uI (uI (uI (uI (uI (uI (uI (uI (uI (uI (uI (uI I 123 1 (vp_nar .boolean 1)) 121 50 (I 121 0)) 121 51 (I 121 1)) 121 52 (I 121 2)) 121 53 (I 121 3)) 121 54 (I 121 4)) 121 55 (I 121 5)) 121 56 (I 121 6)) 121 57 (I 121 7)) 121 58 (I 121 8)) 121 59 (I 121 9)) 121 60 (I 121 10)) 121 61 (I 121 11)) 121 62 (I 121 12)) 121 63 (I 121 13)) 121 64 (I 121 14)) 121 65 (I 121 15)) 121 66 (I 121 16)) 121 67 (I 121 17)) 121 68 (I 121 18)) 121 69 (I 121 19)) 121 70 (I 121 20)) 121 71 (I 121 21)) 121 72 (I 121 22)), J, R)) rfl ?_
  refine ev_gf (c := 86) (t := 121) (X := R 86 56) rfl rfl (fun _ => rfl) rfl (hG 86 56 121 rfl rfl) ?_
  refine ev_go 8 (pc1 := 50) (lv1 := [.ref 86, .int 1, .int 23]) (st1 := [.ref 86, .int 73, .ref 121]) (h1 := (124, (uI (uI (uI (uI (uI (uI (uI (uI (uI (uI (uI (uI (uI (uI (uI (uI (uI (uI (uI (uI (uI (uI (uI (uI I 123 1 (vp_nar .boolean 1)) 121 50 (I 121 0)) 121 51 (I 121 1)) 121 52 (I 121 2)) 121 53 (I 121 3)) 121 54 (I 121 4)) 121 55 (I 121 5)) 121 56 (I 121 6)) 121 57 (I 121 7)) 121 58 (I 121 8)) 121 59 (I 121 9)) 121 60 (I 121 10)) 121 61 (I 121 11)) 121 62 (I 121 12)) 121 63 (I 121 13)) 121 64 (I 121 14)) 121 65 (I 121 15)) 121 66 (I 121 16)) 121 67 (I 121 17)) 121 68 (I 121 18)) 121 69 (I 121 19)) 121 70 (I 121 20)) 121 71 (I 121 21)) 121 72 (I 121 22)), J, R)) rfl ?_
  refine ev_gf (c := 86) (t := 121) (X := R 86 56) rfl rfl (fun _ => rfl) rfl (hG 86 56 121 rfl rfl) ?_
  refine ev_go 9 (pc1 := 38) (lv1 := [.ref 86, .int 1, .int 24]) (st1 := [.ref 86]) (h1 := (124, (uI (uI (uI (uI (uI (uI (uI (uI (uI (uI (uI (uI (uI (uI (uI (uI (uI (uI (uI (uI (uI (uI (uI (uI (uI I 123 1 (vp_nar .boolean 1)) 121 50 (I 121 0)) 121 51 (I 121 1)) 121 52 (I 121 2)) 121 53 (I 121 3)) 121 54 (I 121 4)) 121 55 (I 121 5)) 121 56 (I 121 6)) 121 57 (I 121 7)) 121 58 (I 121 8)) 121 59 (I 121 9)) 121 60 (I 121 10)) 121 61 (I 121 11)) 121 62 (I 121 12)) 121 63 (I 121 13)) 121 64 (I 121 14)) 121 65 (I 121 15)) 121 66 (I 121 16)) 121 67 (I 121 17)) 121 68 (I 121 18)) 121 69 (I 121 19)) 121 70 (I 121 20)) 121 71 (I 121 21)) 121 72 (I 121 22)) 121 73 (I 121 23)), J, R)) rfl ?_
  refine ev_gf (c := 86) (t := 121) (X := R 86 56) rfl rfl (fun _ => rfl) rfl (hG 86 56 121 rfl rfl) ?_
  refine ev_go 8 (pc1 := 50) (lv1 := [.ref 86, .int 1, .int 24]) (st1 := [.ref 86, .int 74, .ref 121]) (h1 := (124, (uI (uI (uI (uI (uI (uI (uI (uI (uI (uI (uI (uI (uI (uI (uI (uI (uI (uI (uI (uI (uI (uI (uI (uI (uI I 123 1 (vp_nar .boolean 1)) 121 50 (I 121 0)) 121 51 (I 121 1)) 121 52 (I 121 2)) 121 53 (I 121 3)) 121 54 (I 121 4)) 121 55 (I 121 5)) 121 56 (I 121 6)) 121 57 (I 121 7)) 121 58 (I 121 8)) 121 59 (I 121 9)) 121 60 (I 121 10)) 121 61 (I 121 11)) 121 62 (I 121 12)) 121 63 (I 121 13)) 121 64 (I 121 14)) 121 65 (I 121 15)) 121 66 (I 121 16)) 121 67 (I 121 17)) 121 68 (I 121 18)) 121 69 (I 121 19)) 121 70 (I 121 20)) 121 71 (I 121 21)) 121 72 (I 121 22)) 121 73 (I 121 23)), J, R)) rfl ?_
  refine ev_gf (c := 86) (t := 121) (X := R 86 56) rfl rfl (fun _ => rfl) rfl (hG 86 56 121 rfl rfl) ?_
  refine ev_go 9 (pc1 := 63) (lv1 := [.ref 86, .int 1, .int 25]) (st1 := [.ref 86]) (h1 := (124, (uI (uI (uI (uI (uI (uI (uI (uI (uI (uI (uI (uI (uI (uI (uI (uI (uI (uI (uI (uI (uI (uI (uI (uI (uI (uI I 123 1 (vp_nar .boolean 1)) 121 50 (I 121 0)) 121 51 (I 121 1)) 121 52 (I 121 2)) 121 53 (I 121 3)) 121 54 (I 121 4)) 121 55 (I 121 5)) 121 56 (I 121 6)) 121 57 (I 121 7)) 121 58 (I 121 8)) 121 59 (I 121 9)) 121 60 (I 121 10)) 121 61 (I 121 11)) 121 62 (I 121 12)) 121 63 (I 121 13)) 121 64 (I 121 14)) 121 65 (I 121 15)) 121 66 (I 121 16)) 121 67 (I 121 17)) 121 68 (I 121 18)) 121 69 (I 121 19)) 121 70 (I 121 20)) 121 71 (I 121 21)) 121 72 (I 121 22)) 121 73 (I 121 23)) 121 74 (I 121 24)), J, R)) rfl ?_
  refine ev_gf (c := 86) (t := 122) (X := R 86 57) rfl rfl (fun _ => rfl) rfl (hG 86 57 122 rfl rfl) ?_
  refine ev_go 4 (pc1 := 70) (lv1 := [.ref 86, .int 1, .int 25]) (st1 := [.ref 86, .int 2, .ref 122]) (h1 := (124, (uI (uI (uI (uI (uI (uI (uI (uI (uI (uI (uI (uI (uI (uI (uI (uI (uI (uI (uI (uI (uI (uI (uI (uI (uI (uI I 123 1 (vp_nar .boolean 1)) 121 50 (I 121 0)) 121 51 (I 121 1)) 121 52 (I 121 2)) 121 53 (I 121 3)) 121 54 (I 121 4)) 121 55 (I 121 5)) 121 56 (I 121 6)) 121 57 (I 121 7)) 121 58 (I 121 8)) 121 59 (I 121 9)) 121 60 (I 121 10)) 121 61 (I 121 11)) 121 62 (I 121 12)) 121 63 (I 121 13)) 121 64 (I 121 14)) 121 65 (I 121 15)) 121 66 (I 121 16)) 121 67 (I 121 17)) 121 68 (I 121 18)) 121 69 (I 121 19)) 121 70 (I 121 20)) 121 71 (I 121 21)) 121 72 (I 121 22)) 121 73 (I 121 23)) 121 74 (I 121 24)), J, R)) rfl ?_
  refine ev_gf (c := 86) (t := 122) (X := R 86 57) rfl rfl (fun _ => rfl) rfl (hG 86 57 122 rfl rfl) ?_
  refine ev_go 4 (pc1 := 77) (lv1 := [.ref 86, .int 1, .int 25]) (st1 := [.ref 86]) (h1 := (124, (uI (uI (uI (uI (uI (uI (uI (uI (uI (uI (uI (uI (uI (uI (uI (uI (uI (uI (uI (uI (uI (uI (uI (uI (uI (uI I 123 1 (vp_nar .boolean 1)) 121 50 (I 121 0)) 121 51 (I 121 1)) 121 52 (I 121 2)) 121 53 (I 121 3)) 121 54 (I 121 4)) 121 55 (I 121 5)) 121 56 (I 121 6)) 121 57 (I 121 7)) 121 58 (I 121 8)) 121 59 (I 121 9)) 121 60 (I 121 10)) 121 61 (I 121 11)) 121 62 (I 121 12)) 121 63 (I 121 13)) 121 64 (I 121 14)) 121 65 (I 121 15)) 121 66 (I 121 16)) 121 67 (I 121 17)) 121 68 (I 121 18)) 121 69 (I 121 19)) 121 70 (I 121 20)) 121 71 (I 121 21)) 121 72 (I 121 22)) 121 73 (I 121 23)) 121 74 (I 121 24)), (uL J 122 2 (J 122 0)), R)) rfl ?_
  refine ev_gf (c := 86) (t := 121) (X := R 86 56) rfl rfl (fun _ => rfl) rfl (hG 86 56 121 rfl rfl) ?_
  refine ev_go 2 (pc1 := 82) (lv1 := [.ref 86, .int 1, .int 25]) (st1 := [.int (I 121 1)]) (h1 := (124, (uI (uI (uI (uI (uI (uI (uI (uI (uI (uI (uI (uI (uI (uI (uI (uI (uI (uI (uI (uI (uI (uI (uI (uI (uI (uI I 123 1 (vp_nar .boolean 1)) 121 50 (I 121 0)) 121 51 (I 121 1)) 121 52 (I 121 2)) 121 53 (I 121 3)) 121 54 (I 121 4)) 121 55 (I 121 5)) 121 56 (I 121 6)) 121 57 (I 121 7)) 121 58 (I 121 8)) 121 59 (I 121 9)) 121 60 (I 121 10)) 121 61 (I 121 11)) 121 62 (I 121 12)) 121 63 (I 121 13)) 121 64 (I 121 14)) 121 65 (I 121 15)) 121 66 (I 121 16)) 121 67 (I 121 17)) 121 68 (I 121 18)) 121 69 (I 121 19)) 121 70 (I 121 20)) 121 71 (I 121 21)) 121 72 (I 121 22)) 121 73 (I 121 23)) 121 74 (I 121 24)), (uL J 122 2 (J 122 0)), R)) rfl ?_
  exact ev_ret rfl rfl
set_option maxRecDepth 20000 in
theorem kX_o2 {L : Nat} {xs : Nat → Int32} {d : Nat} {I : Nat → Nat → Int32} {J : Nat → Nat → Int64} {R : Nat → Nat → Nat} (hG : aGd R) (b1 : (I 66 4).toInt = 0) : xEv L xs d 135 0 [.ref 0, .int 2, xmk] [] (124, I, J, R) (some (.int (-4))) (124, I, J, R) := by
  refine ev_go 6 (pc1 := 13) (lv1 := [.ref 0, .int 2, xmk]) (st1 := [.ref 0]) (h1 := (124, I, J, R)) rfl ?_
  refine ev_gf (c := 0) (t := 63) (X := R 0 7) rfl rfl (fun _ => rfl) rfl (hG 0 7 63 rfl rfl) ?_
  refine ev_gf (c := 63) (t := 66) (X := R 63 3) rfl rfl (fun _ => rfl) rfl (hG 63 3 66 rfl rfl) ?_
  refine ev_go 1 (pc1 := 22) (lv1 := [.ref 0, .int 2, xmk]) (st1 := [.int (I 66 4)]) (h1 := (124, I, J, R)) rfl ?_
  refine ev_br (b1 := false) rfl rfl (xcd_nne (x := (I 66 4)) (y := 0) (by rw [show ((0 : Int32)).toInt = 0 from by decide]; first | exact b1 | omega)) ?_
  refine ev_go 1 (pc1 := 27) (lv1 := [.ref 0, .int 2, xmk]) (st1 := [.int (-4)]) (h1 := (124, I, J, R)) rfl ?_
  exact ev_ret rfl rfl
set_option maxRecDepth 20000 in
theorem kX_r2 {L : Nat} {xs : Nat → Int32} {d : Nat} {I : Nat → Nat → Int32} {J : Nat → Nat → Int64} {R : Nat → Nat → Nat} (hG : aGd R) (b1 : (I 66 4).toInt ≠ 0) (c1 : xEv L xs d 136 0 [.ref 63, .int 2] [] (124, I, J, R) (some (.ref 81)) (124, I, J, R)) (c2 : xEv L xs d 137 0 [.ref 81, .ref 66] [] (124, I, J, R) none (124, (uC (uC (uC (uC (uI (uI (uI I 81 4 (I 66 4)) 81 5 (I 66 5)) 81 6 (I 66 6)) 67 82 4) 68 83 4) 69 84 4) 70 85 4), (uL J 81 7 (J 66 7)), R)) : xEv L xs (d + 1) 135 0 [.ref 0, .int 2, xmk] [] (124, I, J, R) (some (.int (I 66 5))) (124, (uC (uC (uC (uC (uI (uI (uI I 81 4 (I 66 4)) 81 5 (I 66 5)) 81 6 (I 66 6)) 67 82 4) 68 83 4) 69 84 4) 70 85 4), (uL J 81 7 (J 66 7)), R) := by
  refine ev_go 6 (pc1 := 13) (lv1 := [.ref 0, .int 2, xmk]) (st1 := [.ref 0]) (h1 := (124, I, J, R)) rfl ?_
  refine ev_gf (c := 0) (t := 63) (X := R 0 7) rfl rfl (fun _ => rfl) rfl (hG 0 7 63 rfl rfl) ?_
  refine ev_gf (c := 63) (t := 66) (X := R 63 3) rfl rfl (fun _ => rfl) rfl (hG 63 3 66 rfl rfl) ?_
  refine ev_go 1 (pc1 := 22) (lv1 := [.ref 0, .int 2, xmk]) (st1 := [.int (I 66 4)]) (h1 := (124, I, J, R)) rfl ?_
  refine ev_br (b1 := true) rfl rfl (xcd_ne (x := (I 66 4)) (y := 0) (by rw [show ((0 : Int32)).toInt = 0 from by decide]; first | exact b1 | omega)) ?_
  refine ev_go 1 (pc1 := 29) (lv1 := [.ref 0, .int 2, xmk]) (st1 := [.ref 0]) (h1 := (124, I, J, R)) rfl ?_
  refine ev_gf (c := 0) (t := 63) (X := R 0 7) rfl rfl (fun _ => rfl) rfl (hG 0 7 63 rfl rfl) ?_
  refine ev_go 1 (pc1 := 33) (lv1 := [.ref 0, .int 2, xmk]) (st1 := [.int 2, .ref 63]) (h1 := (124, I, J, R)) rfl ?_
  refine ev_call (v1 := (some (.ref 81))) (h1 := (124, I, J, R)) rfl rfl c1 ?_
  refine ev_go 3 (pc1 := 39) (lv1 := [.ref 0, .int 2, .ref 81]) (st1 := [.ref 0, .ref 81]) (h1 := (124, I, J, R)) rfl ?_
  refine ev_gf (c := 0) (t := 63) (X := R 0 7) rfl rfl (fun _ => rfl) rfl (hG 0 7 63 rfl rfl) ?_
  refine ev_gf (c := 63) (t := 66) (X := R 63 3) rfl rfl (fun _ => rfl) rfl (hG 63 3 66 rfl rfl) ?_
  refine ev_call (v1 := none) (h1 := (124, (uC (uC (uC (uC (uI (uI (uI I 81 4 (I 66 4)) 81 5 (I 66 5)) 81 6 (I 66 6)) 67 82 4) 68 83 4) 69 84 4) 70 85 4), (uL J 81 7 (J 66 7)), R)) rfl rfl c2 ?_
  refine ev_go 2 (pc1 := 52) (lv1 := [.ref 0, .int 2, .ref 81]) (st1 := [.int (I 66 5)]) (h1 := (124, (uC (uC (uC (uC (uI (uI (uI I 81 4 (I 66 4)) 81 5 (I 66 5)) 81 6 (I 66 6)) 67 82 4) 68 83 4) 69 84 4) 70 85 4), (uL J 81 7 (J 66 7)), R)) rfl ?_
  exact ev_ret rfl rfl
set_option maxRecDepth 20000 in
theorem kM_o2 {L : Nat} {xs : Nat → Int32} {d : Nat} {I : Nat → Nat → Int32} {J : Nat → Nat → Int64} {R : Nat → Nat → Nat} (hG : aGd R) (c1 : xEv L xs d 234 0 [.int 2] [] (124, I, J, R) (some (.int 1)) (124, I, J, R)) (b1 : (I 121 0).toInt = 0) : xEv L xs (d + 1) 233 0 [.ref 86, .int 2, xmk] [] (124, I, J, R) (some (.int (-4))) (124, I, J, R) := by
  refine ev_go 1 (pc1 := 1) (lv1 := [.ref 86, .int 2, xmk]) (st1 := [.int 2]) (h1 := (124, I, J, R)) rfl ?_
  refine ev_call (v1 := (some (.int 1))) (h1 := (124, I, J, R)) rfl rfl c1 ?_
  refine ev_go 2 (pc1 := 11) (lv1 := [.ref 86, .int 2, xmk]) (st1 := [.ref 86]) (h1 := (124, I, J, R)) rfl ?_
  refine ev_gf (c := 86) (t := 121) (X := R 86 56) rfl rfl (fun _ => rfl) rfl (hG 86 56 121 rfl rfl) ?_
  refine ev_go 2 (pc1 := 16) (lv1 := [.ref 86, .int 2, xmk]) (st1 := [.int (I 121 0)]) (h1 := (124, I, J, R)) rfl ?_
  refine ev_br (b1 := false) rfl rfl (xcd_nne (x := (I 121 0)) (y := 0) (by rw [show ((0 : Int32)).toInt = 0 from by decide]; first | exact b1 | omega)) ?_
  refine ev_go 1 (pc1 := 21) (lv1 := [.ref 86, .int 2, xmk]) (st1 := [.int (-4)]) (h1 := (124, I, J, R)) rfl ?_
  exact ev_ret rfl rfl
set_option maxRecDepth 20000 in
theorem kM_r2 {L : Nat} {xs : Nat → Int32} {d : Nat} {I : Nat → Nat → Int32} {J : Nat → Nat → Int64} {R : Nat → Nat → Nat} (hG : aGd R) (c1 : xEv L xs d 234 0 [.int 2] [] (124, I, J, R) (some (.int 1)) (124, I, J, R)) (b1 : (I 121 0).toInt ≠ 0) : xEv L xs (d + 1) 233 0 [.ref 86, .int 2, xmk] [] (124, I, J, R) (some (.int (I 121 1))) (124, (uI (uI (uI (uI (uI (uI (uI (uI (uI (uI (uI (uI (uI (uI (uI (uI (uI (uI (uI (uI (uI (uI (uI (uI (uI (uI I 123 2 (vp_nar .boolean 1)) 121 75 (I 121 0)) 121 76 (I 121 1)) 121 77 (I 121 2)) 121 78 (I 121 3)) 121 79 (I 121 4)) 121 80 (I 121 5)) 121 81 (I 121 6)) 121 82 (I 121 7)) 121 83 (I 121 8)) 121 84 (I 121 9)) 121 85 (I 121 10)) 121 86 (I 121 11)) 121 87 (I 121 12)) 121 88 (I 121 13)) 121 89 (I 121 14)) 121 90 (I 121 15)) 121 91 (I 121 16)) 121 92 (I 121 17)) 121 93 (I 121 18)) 121 94 (I 121 19)) 121 95 (I 121 20)) 121 96 (I 121 21)) 121 97 (I 121 22)) 121 98 (I 121 23)) 121 99 (I 121 24)), (uL J 122 3 (J 122 0)), R) := by
  refine ev_go 1 (pc1 := 1) (lv1 := [.ref 86, .int 2, xmk]) (st1 := [.int 2]) (h1 := (124, I, J, R)) rfl ?_
  refine ev_call (v1 := (some (.int 1))) (h1 := (124, I, J, R)) rfl rfl c1 ?_
  refine ev_go 2 (pc1 := 11) (lv1 := [.ref 86, .int 2, xmk]) (st1 := [.ref 86]) (h1 := (124, I, J, R)) rfl ?_
  refine ev_gf (c := 86) (t := 121) (X := R 86 56) rfl rfl (fun _ => rfl) rfl (hG 86 56 121 rfl rfl) ?_
  refine ev_go 2 (pc1 := 16) (lv1 := [.ref 86, .int 2, xmk]) (st1 := [.int (I 121 0)]) (h1 := (124, I, J, R)) rfl ?_
  refine ev_br (b1 := true) rfl rfl (xcd_ne (x := (I 121 0)) (y := 0) (by rw [show ((0 : Int32)).toInt = 0 from by decide]; first | exact b1 | omega)) ?_
  refine ev_go 1 (pc1 := 23) (lv1 := [.ref 86, .int 2, xmk]) (st1 := [.ref 86]) (h1 := (124, I, J, R)) rfl ?_
  refine ev_gf (c := 86) (t := 123) (X := R 86 58) rfl rfl (fun _ => rfl) rfl (hG 86 58 123 rfl rfl) ?_
  refine ev_go 9 (pc1 := 38) (lv1 := [.ref 86, .int 2, .int 0]) (st1 := [.ref 86]) (h1 := (124, (uI I 123 2 (vp_nar .boolean 1)), J, R)) rfl ?_
  refine ev_gf (c := 86) (t := 121) (X := R 86 56) rfl rfl (fun _ => rfl) rfl (hG 86 56 121 rfl rfl) ?_
  refine ev_go 8 (pc1 := 50) (lv1 := [.ref 86, .int 2, .int 0]) (st1 := [.ref 86, .int 75, .ref 121]) (h1 := (124, (uI I 123 2 (vp_nar .boolean 1)), J, R)) rfl ?_
  refine ev_gf (c := 86) (t := 121) (X := R 86 56) rfl rfl (fun _ => rfl) rfl (hG 86 56 121 rfl rfl) ?_
  refine ev_go 9 (pc1 := 38) (lv1 := [.ref 86, .int 2, .int 1]) (st1 := [.ref 86]) (h1 := (124, (uI (uI I 123 2 (vp_nar .boolean 1)) 121 75 (I 121 0)), J, R)) rfl ?_
  refine ev_gf (c := 86) (t := 121) (X := R 86 56) rfl rfl (fun _ => rfl) rfl (hG 86 56 121 rfl rfl) ?_
  refine ev_go 8 (pc1 := 50) (lv1 := [.ref 86, .int 2, .int 1]) (st1 := [.ref 86, .int 76, .ref 121]) (h1 := (124, (uI (uI I 123 2 (vp_nar .boolean 1)) 121 75 (I 121 0)), J, R)) rfl ?_
  refine ev_gf (c := 86) (t := 121) (X := R 86 56) rfl rfl (fun _ => rfl) rfl (hG 86 56 121 rfl rfl) ?_
  refine ev_go 9 (pc1 := 38) (lv1 := [.ref 86, .int 2, .int 2]) (st1 := [.ref 86]) (h1 := (124, (uI (uI (uI I 123 2 (vp_nar .boolean 1)) 121 75 (I 121 0)) 121 76 (I 121 1)), J, R)) rfl ?_
  refine ev_gf (c := 86) (t := 121) (X := R 86 56) rfl rfl (fun _ => rfl) rfl (hG 86 56 121 rfl rfl) ?_
  refine ev_go 8 (pc1 := 50) (lv1 := [.ref 86, .int 2, .int 2]) (st1 := [.ref 86, .int 77, .ref 121]) (h1 := (124, (uI (uI (uI I 123 2 (vp_nar .boolean 1)) 121 75 (I 121 0)) 121 76 (I 121 1)), J, R)) rfl ?_
  refine ev_gf (c := 86) (t := 121) (X := R 86 56) rfl rfl (fun _ => rfl) rfl (hG 86 56 121 rfl rfl) ?_
  refine ev_go 9 (pc1 := 38) (lv1 := [.ref 86, .int 2, .int 3]) (st1 := [.ref 86]) (h1 := (124, (uI (uI (uI (uI I 123 2 (vp_nar .boolean 1)) 121 75 (I 121 0)) 121 76 (I 121 1)) 121 77 (I 121 2)), J, R)) rfl ?_
  refine ev_gf (c := 86) (t := 121) (X := R 86 56) rfl rfl (fun _ => rfl) rfl (hG 86 56 121 rfl rfl) ?_
  refine ev_go 8 (pc1 := 50) (lv1 := [.ref 86, .int 2, .int 3]) (st1 := [.ref 86, .int 78, .ref 121]) (h1 := (124, (uI (uI (uI (uI I 123 2 (vp_nar .boolean 1)) 121 75 (I 121 0)) 121 76 (I 121 1)) 121 77 (I 121 2)), J, R)) rfl ?_
  refine ev_gf (c := 86) (t := 121) (X := R 86 56) rfl rfl (fun _ => rfl) rfl (hG 86 56 121 rfl rfl) ?_
  refine ev_go 9 (pc1 := 38) (lv1 := [.ref 86, .int 2, .int 4]) (st1 := [.ref 86]) (h1 := (124, (uI (uI (uI (uI (uI I 123 2 (vp_nar .boolean 1)) 121 75 (I 121 0)) 121 76 (I 121 1)) 121 77 (I 121 2)) 121 78 (I 121 3)), J, R)) rfl ?_
  refine ev_gf (c := 86) (t := 121) (X := R 86 56) rfl rfl (fun _ => rfl) rfl (hG 86 56 121 rfl rfl) ?_
  refine ev_go 8 (pc1 := 50) (lv1 := [.ref 86, .int 2, .int 4]) (st1 := [.ref 86, .int 79, .ref 121]) (h1 := (124, (uI (uI (uI (uI (uI I 123 2 (vp_nar .boolean 1)) 121 75 (I 121 0)) 121 76 (I 121 1)) 121 77 (I 121 2)) 121 78 (I 121 3)), J, R)) rfl ?_
  refine ev_gf (c := 86) (t := 121) (X := R 86 56) rfl rfl (fun _ => rfl) rfl (hG 86 56 121 rfl rfl) ?_
  refine ev_go 9 (pc1 := 38) (lv1 := [.ref 86, .int 2, .int 5]) (st1 := [.ref 86]) (h1 := (124, (uI (uI (uI (uI (uI (uI I 123 2 (vp_nar .boolean 1)) 121 75 (I 121 0)) 121 76 (I 121 1)) 121 77 (I 121 2)) 121 78 (I 121 3)) 121 79 (I 121 4)), J, R)) rfl ?_
  refine ev_gf (c := 86) (t := 121) (X := R 86 56) rfl rfl (fun _ => rfl) rfl (hG 86 56 121 rfl rfl) ?_
  refine ev_go 8 (pc1 := 50) (lv1 := [.ref 86, .int 2, .int 5]) (st1 := [.ref 86, .int 80, .ref 121]) (h1 := (124, (uI (uI (uI (uI (uI (uI I 123 2 (vp_nar .boolean 1)) 121 75 (I 121 0)) 121 76 (I 121 1)) 121 77 (I 121 2)) 121 78 (I 121 3)) 121 79 (I 121 4)), J, R)) rfl ?_
  refine ev_gf (c := 86) (t := 121) (X := R 86 56) rfl rfl (fun _ => rfl) rfl (hG 86 56 121 rfl rfl) ?_
  refine ev_go 9 (pc1 := 38) (lv1 := [.ref 86, .int 2, .int 6]) (st1 := [.ref 86]) (h1 := (124, (uI (uI (uI (uI (uI (uI (uI I 123 2 (vp_nar .boolean 1)) 121 75 (I 121 0)) 121 76 (I 121 1)) 121 77 (I 121 2)) 121 78 (I 121 3)) 121 79 (I 121 4)) 121 80 (I 121 5)), J, R)) rfl ?_
  refine ev_gf (c := 86) (t := 121) (X := R 86 56) rfl rfl (fun _ => rfl) rfl (hG 86 56 121 rfl rfl) ?_
  refine ev_go 8 (pc1 := 50) (lv1 := [.ref 86, .int 2, .int 6]) (st1 := [.ref 86, .int 81, .ref 121]) (h1 := (124, (uI (uI (uI (uI (uI (uI (uI I 123 2 (vp_nar .boolean 1)) 121 75 (I 121 0)) 121 76 (I 121 1)) 121 77 (I 121 2)) 121 78 (I 121 3)) 121 79 (I 121 4)) 121 80 (I 121 5)), J, R)) rfl ?_
  refine ev_gf (c := 86) (t := 121) (X := R 86 56) rfl rfl (fun _ => rfl) rfl (hG 86 56 121 rfl rfl) ?_
  refine ev_go 9 (pc1 := 38) (lv1 := [.ref 86, .int 2, .int 7]) (st1 := [.ref 86]) (h1 := (124, (uI (uI (uI (uI (uI (uI (uI (uI I 123 2 (vp_nar .boolean 1)) 121 75 (I 121 0)) 121 76 (I 121 1)) 121 77 (I 121 2)) 121 78 (I 121 3)) 121 79 (I 121 4)) 121 80 (I 121 5)) 121 81 (I 121 6)), J, R)) rfl ?_
  refine ev_gf (c := 86) (t := 121) (X := R 86 56) rfl rfl (fun _ => rfl) rfl (hG 86 56 121 rfl rfl) ?_
  refine ev_go 8 (pc1 := 50) (lv1 := [.ref 86, .int 2, .int 7]) (st1 := [.ref 86, .int 82, .ref 121]) (h1 := (124, (uI (uI (uI (uI (uI (uI (uI (uI I 123 2 (vp_nar .boolean 1)) 121 75 (I 121 0)) 121 76 (I 121 1)) 121 77 (I 121 2)) 121 78 (I 121 3)) 121 79 (I 121 4)) 121 80 (I 121 5)) 121 81 (I 121 6)), J, R)) rfl ?_
  refine ev_gf (c := 86) (t := 121) (X := R 86 56) rfl rfl (fun _ => rfl) rfl (hG 86 56 121 rfl rfl) ?_
  refine ev_go 9 (pc1 := 38) (lv1 := [.ref 86, .int 2, .int 8]) (st1 := [.ref 86]) (h1 := (124, (uI (uI (uI (uI (uI (uI (uI (uI (uI I 123 2 (vp_nar .boolean 1)) 121 75 (I 121 0)) 121 76 (I 121 1)) 121 77 (I 121 2)) 121 78 (I 121 3)) 121 79 (I 121 4)) 121 80 (I 121 5)) 121 81 (I 121 6)) 121 82 (I 121 7)), J, R)) rfl ?_
  refine ev_gf (c := 86) (t := 121) (X := R 86 56) rfl rfl (fun _ => rfl) rfl (hG 86 56 121 rfl rfl) ?_
  refine ev_go 8 (pc1 := 50) (lv1 := [.ref 86, .int 2, .int 8]) (st1 := [.ref 86, .int 83, .ref 121]) (h1 := (124, (uI (uI (uI (uI (uI (uI (uI (uI (uI I 123 2 (vp_nar .boolean 1)) 121 75 (I 121 0)) 121 76 (I 121 1)) 121 77 (I 121 2)) 121 78 (I 121 3)) 121 79 (I 121 4)) 121 80 (I 121 5)) 121 81 (I 121 6)) 121 82 (I 121 7)), J, R)) rfl ?_
  refine ev_gf (c := 86) (t := 121) (X := R 86 56) rfl rfl (fun _ => rfl) rfl (hG 86 56 121 rfl rfl) ?_
  refine ev_go 9 (pc1 := 38) (lv1 := [.ref 86, .int 2, .int 9]) (st1 := [.ref 86]) (h1 := (124, (uI (uI (uI (uI (uI (uI (uI (uI (uI (uI I 123 2 (vp_nar .boolean 1)) 121 75 (I 121 0)) 121 76 (I 121 1)) 121 77 (I 121 2)) 121 78 (I 121 3)) 121 79 (I 121 4)) 121 80 (I 121 5)) 121 81 (I 121 6)) 121 82 (I 121 7)) 121 83 (I 121 8)), J, R)) rfl ?_
  refine ev_gf (c := 86) (t := 121) (X := R 86 56) rfl rfl (fun _ => rfl) rfl (hG 86 56 121 rfl rfl) ?_
  refine ev_go 8 (pc1 := 50) (lv1 := [.ref 86, .int 2, .int 9]) (st1 := [.ref 86, .int 84, .ref 121]) (h1 := (124, (uI (uI (uI (uI (uI (uI (uI (uI (uI (uI I 123 2 (vp_nar .boolean 1)) 121 75 (I 121 0)) 121 76 (I 121 1)) 121 77 (I 121 2)) 121 78 (I 121 3)) 121 79 (I 121 4)) 121 80 (I 121 5)) 121 81 (I 121 6)) 121 82 (I 121 7)) 121 83 (I 121 8)), J, R)) rfl ?_
  refine ev_gf (c := 86) (t := 121) (X := R 86 56) rfl rfl (fun _ => rfl) rfl (hG 86 56 121 rfl rfl) ?_
  refine ev_go 9 (pc1 := 38) (lv1 := [.ref 86, .int 2, .int 10]) (st1 := [.ref 86]) (h1 := (124, (uI (uI (uI (uI (uI (uI (uI (uI (uI (uI (uI I 123 2 (vp_nar .boolean 1)) 121 75 (I 121 0)) 121 76 (I 121 1)) 121 77 (I 121 2)) 121 78 (I 121 3)) 121 79 (I 121 4)) 121 80 (I 121 5)) 121 81 (I 121 6)) 121 82 (I 121 7)) 121 83 (I 121 8)) 121 84 (I 121 9)), J, R)) rfl ?_
  refine ev_gf (c := 86) (t := 121) (X := R 86 56) rfl rfl (fun _ => rfl) rfl (hG 86 56 121 rfl rfl) ?_
  refine ev_go 8 (pc1 := 50) (lv1 := [.ref 86, .int 2, .int 10]) (st1 := [.ref 86, .int 85, .ref 121]) (h1 := (124, (uI (uI (uI (uI (uI (uI (uI (uI (uI (uI (uI I 123 2 (vp_nar .boolean 1)) 121 75 (I 121 0)) 121 76 (I 121 1)) 121 77 (I 121 2)) 121 78 (I 121 3)) 121 79 (I 121 4)) 121 80 (I 121 5)) 121 81 (I 121 6)) 121 82 (I 121 7)) 121 83 (I 121 8)) 121 84 (I 121 9)), J, R)) rfl ?_
  refine ev_gf (c := 86) (t := 121) (X := R 86 56) rfl rfl (fun _ => rfl) rfl (hG 86 56 121 rfl rfl) ?_
  refine ev_go 9 (pc1 := 38) (lv1 := [.ref 86, .int 2, .int 11]) (st1 := [.ref 86]) (h1 := (124, (uI (uI (uI (uI (uI (uI (uI (uI (uI (uI (uI (uI I 123 2 (vp_nar .boolean 1)) 121 75 (I 121 0)) 121 76 (I 121 1)) 121 77 (I 121 2)) 121 78 (I 121 3)) 121 79 (I 121 4)) 121 80 (I 121 5)) 121 81 (I 121 6)) 121 82 (I 121 7)) 121 83 (I 121 8)) 121 84 (I 121 9)) 121 85 (I 121 10)), J, R)) rfl ?_
  refine ev_gf (c := 86) (t := 121) (X := R 86 56) rfl rfl (fun _ => rfl) rfl (hG 86 56 121 rfl rfl) ?_
  refine ev_go 8 (pc1 := 50) (lv1 := [.ref 86, .int 2, .int 11]) (st1 := [.ref 86, .int 86, .ref 121]) (h1 := (124, (uI (uI (uI (uI (uI (uI (uI (uI (uI (uI (uI (uI I 123 2 (vp_nar .boolean 1)) 121 75 (I 121 0)) 121 76 (I 121 1)) 121 77 (I 121 2)) 121 78 (I 121 3)) 121 79 (I 121 4)) 121 80 (I 121 5)) 121 81 (I 121 6)) 121 82 (I 121 7)) 121 83 (I 121 8)) 121 84 (I 121 9)) 121 85 (I 121 10)), J, R)) rfl ?_
  refine ev_gf (c := 86) (t := 121) (X := R 86 56) rfl rfl (fun _ => rfl) rfl (hG 86 56 121 rfl rfl) ?_
  refine ev_go 9 (pc1 := 38) (lv1 := [.ref 86, .int 2, .int 12]) (st1 := [.ref 86]) (h1 := (124, (uI (uI (uI (uI (uI (uI (uI (uI (uI (uI (uI (uI (uI I 123 2 (vp_nar .boolean 1)) 121 75 (I 121 0)) 121 76 (I 121 1)) 121 77 (I 121 2)) 121 78 (I 121 3)) 121 79 (I 121 4)) 121 80 (I 121 5)) 121 81 (I 121 6)) 121 82 (I 121 7)) 121 83 (I 121 8)) 121 84 (I 121 9)) 121 85 (I 121 10)) 121 86 (I 121 11)), J, R)) rfl ?_
  refine ev_gf (c := 86) (t := 121) (X := R 86 56) rfl rfl (fun _ => rfl) rfl (hG 86 56 121 rfl rfl) ?_
  refine ev_go 8 (pc1 := 50) (lv1 := [.ref 86, .int 2, .int 12]) (st1 := [.ref 86, .int 87, .ref 121]) (h1 := (124, (uI (uI (uI (uI (uI (uI (uI (uI (uI (uI (uI (uI (uI I 123 2 (vp_nar .boolean 1)) 121 75 (I 121 0)) 121 76 (I 121 1)) 121 77 (I 121 2)) 121 78 (I 121 3)) 121 79 (I 121 4)) 121 80 (I 121 5)) 121 81 (I 121 6)) 121 82 (I 121 7)) 121 83 (I 121 8)) 121 84 (I 121 9)) 121 85 (I 121 10)) 121 86 (I 121 11)), J, R)) rfl ?_
  refine ev_gf (c := 86) (t := 121) (X := R 86 56) rfl rfl (fun _ => rfl) rfl (hG 86 56 121 rfl rfl) ?_
  refine ev_go 9 (pc1 := 38) (lv1 := [.ref 86, .int 2, .int 13]) (st1 := [.ref 86]) (h1 := (124, (uI (uI (uI (uI (uI (uI (uI (uI (uI (uI (uI (uI (uI (uI I 123 2 (vp_nar .boolean 1)) 121 75 (I 121 0)) 121 76 (I 121 1)) 121 77 (I 121 2)) 121 78 (I 121 3)) 121 79 (I 121 4)) 121 80 (I 121 5)) 121 81 (I 121 6)) 121 82 (I 121 7)) 121 83 (I 121 8)) 121 84 (I 121 9)) 121 85 (I 121 10)) 121 86 (I 121 11)) 121 87 (I 121 12)), J, R)) rfl ?_
  refine ev_gf (c := 86) (t := 121) (X := R 86 56) rfl rfl (fun _ => rfl) rfl (hG 86 56 121 rfl rfl) ?_
  refine ev_go 8 (pc1 := 50) (lv1 := [.ref 86, .int 2, .int 13]) (st1 := [.ref 86, .int 88, .ref 121]) (h1 := (124, (uI (uI (uI (uI (uI (uI (uI (uI (uI (uI (uI (uI (uI (uI I 123 2 (vp_nar .boolean 1)) 121 75 (I 121 0)) 121 76 (I 121 1)) 121 77 (I 121 2)) 121 78 (I 121 3)) 121 79 (I 121 4)) 121 80 (I 121 5)) 121 81 (I 121 6)) 121 82 (I 121 7)) 121 83 (I 121 8)) 121 84 (I 121 9)) 121 85 (I 121 10)) 121 86 (I 121 11)) 121 87 (I 121 12)), J, R)) rfl ?_
  refine ev_gf (c := 86) (t := 121) (X := R 86 56) rfl rfl (fun _ => rfl) rfl (hG 86 56 121 rfl rfl) ?_
  refine ev_go 9 (pc1 := 38) (lv1 := [.ref 86, .int 2, .int 14]) (st1 := [.ref 86]) (h1 := (124, (uI (uI (uI (uI (uI (uI (uI (uI (uI (uI (uI (uI (uI (uI (uI I 123 2 (vp_nar .boolean 1)) 121 75 (I 121 0)) 121 76 (I 121 1)) 121 77 (I 121 2)) 121 78 (I 121 3)) 121 79 (I 121 4)) 121 80 (I 121 5)) 121 81 (I 121 6)) 121 82 (I 121 7)) 121 83 (I 121 8)) 121 84 (I 121 9)) 121 85 (I 121 10)) 121 86 (I 121 11)) 121 87 (I 121 12)) 121 88 (I 121 13)), J, R)) rfl ?_
  refine ev_gf (c := 86) (t := 121) (X := R 86 56) rfl rfl (fun _ => rfl) rfl (hG 86 56 121 rfl rfl) ?_
  refine ev_go 8 (pc1 := 50) (lv1 := [.ref 86, .int 2, .int 14]) (st1 := [.ref 86, .int 89, .ref 121]) (h1 := (124, (uI (uI (uI (uI (uI (uI (uI (uI (uI (uI (uI (uI (uI (uI (uI I 123 2 (vp_nar .boolean 1)) 121 75 (I 121 0)) 121 76 (I 121 1)) 121 77 (I 121 2)) 121 78 (I 121 3)) 121 79 (I 121 4)) 121 80 (I 121 5)) 121 81 (I 121 6)) 121 82 (I 121 7)) 121 83 (I 121 8)) 121 84 (I 121 9)) 121 85 (I 121 10)) 121 86 (I 121 11)) 121 87 (I 121 12)) 121 88 (I 121 13)), J, R)) rfl ?_
  refine ev_gf (c := 86) (t := 121) (X := R 86 56) rfl rfl (fun _ => rfl) rfl (hG 86 56 121 rfl rfl) ?_
  refine ev_go 9 (pc1 := 38) (lv1 := [.ref 86, .int 2, .int 15]) (st1 := [.ref 86]) (h1 := (124, (uI (uI (uI (uI (uI (uI (uI (uI (uI (uI (uI (uI (uI (uI (uI (uI I 123 2 (vp_nar .boolean 1)) 121 75 (I 121 0)) 121 76 (I 121 1)) 121 77 (I 121 2)) 121 78 (I 121 3)) 121 79 (I 121 4)) 121 80 (I 121 5)) 121 81 (I 121 6)) 121 82 (I 121 7)) 121 83 (I 121 8)) 121 84 (I 121 9)) 121 85 (I 121 10)) 121 86 (I 121 11)) 121 87 (I 121 12)) 121 88 (I 121 13)) 121 89 (I 121 14)), J, R)) rfl ?_
  refine ev_gf (c := 86) (t := 121) (X := R 86 56) rfl rfl (fun _ => rfl) rfl (hG 86 56 121 rfl rfl) ?_
  refine ev_go 8 (pc1 := 50) (lv1 := [.ref 86, .int 2, .int 15]) (st1 := [.ref 86, .int 90, .ref 121]) (h1 := (124, (uI (uI (uI (uI (uI (uI (uI (uI (uI (uI (uI (uI (uI (uI (uI (uI I 123 2 (vp_nar .boolean 1)) 121 75 (I 121 0)) 121 76 (I 121 1)) 121 77 (I 121 2)) 121 78 (I 121 3)) 121 79 (I 121 4)) 121 80 (I 121 5)) 121 81 (I 121 6)) 121 82 (I 121 7)) 121 83 (I 121 8)) 121 84 (I 121 9)) 121 85 (I 121 10)) 121 86 (I 121 11)) 121 87 (I 121 12)) 121 88 (I 121 13)) 121 89 (I 121 14)), J, R)) rfl ?_
  refine ev_gf (c := 86) (t := 121) (X := R 86 56) rfl rfl (fun _ => rfl) rfl (hG 86 56 121 rfl rfl) ?_
  refine ev_go 9 (pc1 := 38) (lv1 := [.ref 86, .int 2, .int 16]) (st1 := [.ref 86]) (h1 := (124, (uI (uI (uI (uI (uI (uI (uI (uI (uI (uI (uI (uI (uI (uI (uI (uI (uI I 123 2 (vp_nar .boolean 1)) 121 75 (I 121 0)) 121 76 (I 121 1)) 121 77 (I 121 2)) 121 78 (I 121 3)) 121 79 (I 121 4)) 121 80 (I 121 5)) 121 81 (I 121 6)) 121 82 (I 121 7)) 121 83 (I 121 8)) 121 84 (I 121 9)) 121 85 (I 121 10)) 121 86 (I 121 11)) 121 87 (I 121 12)) 121 88 (I 121 13)) 121 89 (I 121 14)) 121 90 (I 121 15)), J, R)) rfl ?_
  refine ev_gf (c := 86) (t := 121) (X := R 86 56) rfl rfl (fun _ => rfl) rfl (hG 86 56 121 rfl rfl) ?_
  refine ev_go 8 (pc1 := 50) (lv1 := [.ref 86, .int 2, .int 16]) (st1 := [.ref 86, .int 91, .ref 121]) (h1 := (124, (uI (uI (uI (uI (uI (uI (uI (uI (uI (uI (uI (uI (uI (uI (uI (uI (uI I 123 2 (vp_nar .boolean 1)) 121 75 (I 121 0)) 121 76 (I 121 1)) 121 77 (I 121 2)) 121 78 (I 121 3)) 121 79 (I 121 4)) 121 80 (I 121 5)) 121 81 (I 121 6)) 121 82 (I 121 7)) 121 83 (I 121 8)) 121 84 (I 121 9)) 121 85 (I 121 10)) 121 86 (I 121 11)) 121 87 (I 121 12)) 121 88 (I 121 13)) 121 89 (I 121 14)) 121 90 (I 121 15)), J, R)) rfl ?_
  refine ev_gf (c := 86) (t := 121) (X := R 86 56) rfl rfl (fun _ => rfl) rfl (hG 86 56 121 rfl rfl) ?_
  refine ev_go 9 (pc1 := 38) (lv1 := [.ref 86, .int 2, .int 17]) (st1 := [.ref 86]) (h1 := (124, (uI (uI (uI (uI (uI (uI (uI (uI (uI (uI (uI (uI (uI (uI (uI (uI (uI (uI I 123 2 (vp_nar .boolean 1)) 121 75 (I 121 0)) 121 76 (I 121 1)) 121 77 (I 121 2)) 121 78 (I 121 3)) 121 79 (I 121 4)) 121 80 (I 121 5)) 121 81 (I 121 6)) 121 82 (I 121 7)) 121 83 (I 121 8)) 121 84 (I 121 9)) 121 85 (I 121 10)) 121 86 (I 121 11)) 121 87 (I 121 12)) 121 88 (I 121 13)) 121 89 (I 121 14)) 121 90 (I 121 15)) 121 91 (I 121 16)), J, R)) rfl ?_
  refine ev_gf (c := 86) (t := 121) (X := R 86 56) rfl rfl (fun _ => rfl) rfl (hG 86 56 121 rfl rfl) ?_
  refine ev_go 8 (pc1 := 50) (lv1 := [.ref 86, .int 2, .int 17]) (st1 := [.ref 86, .int 92, .ref 121]) (h1 := (124, (uI (uI (uI (uI (uI (uI (uI (uI (uI (uI (uI (uI (uI (uI (uI (uI (uI (uI I 123 2 (vp_nar .boolean 1)) 121 75 (I 121 0)) 121 76 (I 121 1)) 121 77 (I 121 2)) 121 78 (I 121 3)) 121 79 (I 121 4)) 121 80 (I 121 5)) 121 81 (I 121 6)) 121 82 (I 121 7)) 121 83 (I 121 8)) 121 84 (I 121 9)) 121 85 (I 121 10)) 121 86 (I 121 11)) 121 87 (I 121 12)) 121 88 (I 121 13)) 121 89 (I 121 14)) 121 90 (I 121 15)) 121 91 (I 121 16)), J, R)) rfl ?_
  refine ev_gf (c := 86) (t := 121) (X := R 86 56) rfl rfl (fun _ => rfl) rfl (hG 86 56 121 rfl rfl) ?_
  refine ev_go 9 (pc1 := 38) (lv1 := [.ref 86, .int 2, .int 18]) (st1 := [.ref 86]) (h1 := (124, (uI (uI (uI (uI (uI (uI (uI (uI (uI (uI (uI (uI (uI (uI (uI (uI (uI (uI (uI I 123 2 (vp_nar .boolean 1)) 121 75 (I 121 0)) 121 76 (I 121 1)) 121 77 (I 121 2)) 121 78 (I 121 3)) 121 79 (I 121 4)) 121 80 (I 121 5)) 121 81 (I 121 6)) 121 82 (I 121 7)) 121 83 (I 121 8)) 121 84 (I 121 9)) 121 85 (I 121 10)) 121 86 (I 121 11)) 121 87 (I 121 12)) 121 88 (I 121 13)) 121 89 (I 121 14)) 121 90 (I 121 15)) 121 91 (I 121 16)) 121 92 (I 121 17)), J, R)) rfl ?_
  refine ev_gf (c := 86) (t := 121) (X := R 86 56) rfl rfl (fun _ => rfl) rfl (hG 86 56 121 rfl rfl) ?_
  refine ev_go 8 (pc1 := 50) (lv1 := [.ref 86, .int 2, .int 18]) (st1 := [.ref 86, .int 93, .ref 121]) (h1 := (124, (uI (uI (uI (uI (uI (uI (uI (uI (uI (uI (uI (uI (uI (uI (uI (uI (uI (uI (uI I 123 2 (vp_nar .boolean 1)) 121 75 (I 121 0)) 121 76 (I 121 1)) 121 77 (I 121 2)) 121 78 (I 121 3)) 121 79 (I 121 4)) 121 80 (I 121 5)) 121 81 (I 121 6)) 121 82 (I 121 7)) 121 83 (I 121 8)) 121 84 (I 121 9)) 121 85 (I 121 10)) 121 86 (I 121 11)) 121 87 (I 121 12)) 121 88 (I 121 13)) 121 89 (I 121 14)) 121 90 (I 121 15)) 121 91 (I 121 16)) 121 92 (I 121 17)), J, R)) rfl ?_
  refine ev_gf (c := 86) (t := 121) (X := R 86 56) rfl rfl (fun _ => rfl) rfl (hG 86 56 121 rfl rfl) ?_
  refine ev_go 9 (pc1 := 38) (lv1 := [.ref 86, .int 2, .int 19]) (st1 := [.ref 86]) (h1 := (124, (uI (uI (uI (uI (uI (uI (uI (uI (uI (uI (uI (uI (uI (uI (uI (uI (uI (uI (uI (uI I 123 2 (vp_nar .boolean 1)) 121 75 (I 121 0)) 121 76 (I 121 1)) 121 77 (I 121 2)) 121 78 (I 121 3)) 121 79 (I 121 4)) 121 80 (I 121 5)) 121 81 (I 121 6)) 121 82 (I 121 7)) 121 83 (I 121 8)) 121 84 (I 121 9)) 121 85 (I 121 10)) 121 86 (I 121 11)) 121 87 (I 121 12)) 121 88 (I 121 13)) 121 89 (I 121 14)) 121 90 (I 121 15)) 121 91 (I 121 16)) 121 92 (I 121 17)) 121 93 (I 121 18)), J, R)) rfl ?_
  refine ev_gf (c := 86) (t := 121) (X := R 86 56) rfl rfl (fun _ => rfl) rfl (hG 86 56 121 rfl rfl) ?_
  refine ev_go 8 (pc1 := 50) (lv1 := [.ref 86, .int 2, .int 19]) (st1 := [.ref 86, .int 94, .ref 121]) (h1 := (124, (uI (uI (uI (uI (uI (uI (uI (uI (uI (uI (uI (uI (uI (uI (uI (uI (uI (uI (uI (uI I 123 2 (vp_nar .boolean 1)) 121 75 (I 121 0)) 121 76 (I 121 1)) 121 77 (I 121 2)) 121 78 (I 121 3)) 121 79 (I 121 4)) 121 80 (I 121 5)) 121 81 (I 121 6)) 121 82 (I 121 7)) 121 83 (I 121 8)) 121 84 (I 121 9)) 121 85 (I 121 10)) 121 86 (I 121 11)) 121 87 (I 121 12)) 121 88 (I 121 13)) 121 89 (I 121 14)) 121 90 (I 121 15)) 121 91 (I 121 16)) 121 92 (I 121 17)) 121 93 (I 121 18)), J, R)) rfl ?_
  refine ev_gf (c := 86) (t := 121) (X := R 86 56) rfl rfl (fun _ => rfl) rfl (hG 86 56 121 rfl rfl) ?_
  refine ev_go 9 (pc1 := 38) (lv1 := [.ref 86, .int 2, .int 20]) (st1 := [.ref 86]) (h1 := (124, (uI (uI (uI (uI (uI (uI (uI (uI (uI (uI (uI (uI (uI (uI (uI (uI (uI (uI (uI (uI (uI I 123 2 (vp_nar .boolean 1)) 121 75 (I 121 0)) 121 76 (I 121 1)) 121 77 (I 121 2)) 121 78 (I 121 3)) 121 79 (I 121 4)) 121 80 (I 121 5)) 121 81 (I 121 6)) 121 82 (I 121 7)) 121 83 (I 121 8)) 121 84 (I 121 9)) 121 85 (I 121 10)) 121 86 (I 121 11)) 121 87 (I 121 12)) 121 88 (I 121 13)) 121 89 (I 121 14)) 121 90 (I 121 15)) 121 91 (I 121 16)) 121 92 (I 121 17)) 121 93 (I 121 18)) 121 94 (I 121 19)), J, R)) rfl ?_
  refine ev_gf (c := 86) (t := 121) (X := R 86 56) rfl rfl (fun _ => rfl) rfl (hG 86 56 121 rfl rfl) ?_
  refine ev_go 8 (pc1 := 50) (lv1 := [.ref 86, .int 2, .int 20]) (st1 := [.ref 86, .int 95, .ref 121]) (h1 := (124, (uI (uI (uI (uI (uI (uI (uI (uI (uI (uI (uI (uI (uI (uI (uI (uI (uI (uI (uI (uI (uI I 123 2 (vp_nar .boolean 1)) 121 75 (I 121 0)) 121 76 (I 121 1)) 121 77 (I 121 2)) 121 78 (I 121 3)) 121 79 (I 121 4)) 121 80 (I 121 5)) 121 81 (I 121 6)) 121 82 (I 121 7)) 121 83 (I 121 8)) 121 84 (I 121 9)) 121 85 (I 121 10)) 121 86 (I 121 11)) 121 87 (I 121 12)) 121 88 (I 121 13)) 121 89 (I 121 14)) 121 90 (I 121 15)) 121 91 (I 121 16)) 121 92 (I 121 17)) 121 93 (I 121 18)) 121 94 (I 121 19)), J, R)) rfl ?_
  refine ev_gf (c := 86) (t := 121) (X := R 86 56) rfl rfl (fun _ => rfl) rfl (hG 86 56 121 rfl rfl) ?_
  refine ev_go 9 (pc1 := 38) (lv1 := [.ref 86, .int 2, .int 21]) (st1 := [.ref 86]) (h1 := (124, (uI (uI (uI (uI (uI (uI (uI (uI (uI (uI (uI (uI (uI (uI (uI (uI (uI (uI (uI (uI (uI (uI I 123 2 (vp_nar .boolean 1)) 121 75 (I 121 0)) 121 76 (I 121 1)) 121 77 (I 121 2)) 121 78 (I 121 3)) 121 79 (I 121 4)) 121 80 (I 121 5)) 121 81 (I 121 6)) 121 82 (I 121 7)) 121 83 (I 121 8)) 121 84 (I 121 9)) 121 85 (I 121 10)) 121 86 (I 121 11)) 121 87 (I 121 12)) 121 88 (I 121 13)) 121 89 (I 121 14)) 121 90 (I 121 15)) 121 91 (I 121 16)) 121 92 (I 121 17)) 121 93 (I 121 18)) 121 94 (I 121 19)) 121 95 (I 121 20)), J, R)) rfl ?_
  refine ev_gf (c := 86) (t := 121) (X := R 86 56) rfl rfl (fun _ => rfl) rfl (hG 86 56 121 rfl rfl) ?_
  refine ev_go 8 (pc1 := 50) (lv1 := [.ref 86, .int 2, .int 21]) (st1 := [.ref 86, .int 96, .ref 121]) (h1 := (124, (uI (uI (uI (uI (uI (uI (uI (uI (uI (uI (uI (uI (uI (uI (uI (uI (uI (uI (uI (uI (uI (uI I 123 2 (vp_nar .boolean 1)) 121 75 (I 121 0)) 121 76 (I 121 1)) 121 77 (I 121 2)) 121 78 (I 121 3)) 121 79 (I 121 4)) 121 80 (I 121 5)) 121 81 (I 121 6)) 121 82 (I 121 7)) 121 83 (I 121 8)) 121 84 (I 121 9)) 121 85 (I 121 10)) 121 86 (I 121 11)) 121 87 (I 121 12)) 121 88 (I 121 13)) 121 89 (I 121 14)) 121 90 (I 121 15)) 121 91 (I 121 16)) 121 92 (I 121 17)) 121 93 (I 121 18)) 121 94 (I 121 19)) 121 95 (I 121 20)), J, R)) rfl ?_
  refine ev_gf (c := 86) (t := 121) (X := R 86 56) rfl rfl (fun _ => rfl) rfl (hG 86 56 121 rfl rfl) ?_
  refine ev_go 9 (pc1 := 38) (lv1 := [.ref 86, .int 2, .int 22]) (st1 := [.ref 86]) (h1 := (124, (uI (uI (uI (uI (uI (uI (uI (uI (uI (uI (uI (uI (uI (uI (uI (uI (uI (uI (uI (uI (uI (uI (uI I 123 2 (vp_nar .boolean 1)) 121 75 (I 121 0)) 121 76 (I 121 1)) 121 77 (I 121 2)) 121 78 (I 121 3)) 121 79 (I 121 4)) 121 80 (I 121 5)) 121 81 (I 121 6)) 121 82 (I 121 7)) 121 83 (I 121 8)) 121 84 (I 121 9)) 121 85 (I 121 10)) 121 86 (I 121 11)) 121 87 (I 121 12)) 121 88 (I 121 13)) 121 89 (I 121 14)) 121 90 (I 121 15)) 121 91 (I 121 16)) 121 92 (I 121 17)) 121 93 (I 121 18)) 121 94 (I 121 19)) 121 95 (I 121 20)) 121 96 (I 121 21)), J, R)) rfl ?_
  refine ev_gf (c := 86) (t := 121) (X := R 86 56) rfl rfl (fun _ => rfl) rfl (hG 86 56 121 rfl rfl) ?_
  refine ev_go 8 (pc1 := 50) (lv1 := [.ref 86, .int 2, .int 22]) (st1 := [.ref 86, .int 97, .ref 121]) (h1 := (124, (uI (uI (uI (uI (uI (uI (uI (uI (uI (uI (uI (uI (uI (uI (uI (uI (uI (uI (uI (uI (uI (uI (uI I 123 2 (vp_nar .boolean 1)) 121 75 (I 121 0)) 121 76 (I 121 1)) 121 77 (I 121 2)) 121 78 (I 121 3)) 121 79 (I 121 4)) 121 80 (I 121 5)) 121 81 (I 121 6)) 121 82 (I 121 7)) 121 83 (I 121 8)) 121 84 (I 121 9)) 121 85 (I 121 10)) 121 86 (I 121 11)) 121 87 (I 121 12)) 121 88 (I 121 13)) 121 89 (I 121 14)) 121 90 (I 121 15)) 121 91 (I 121 16)) 121 92 (I 121 17)) 121 93 (I 121 18)) 121 94 (I 121 19)) 121 95 (I 121 20)) 121 96 (I 121 21)), J, R)) rfl ?_
  refine ev_gf (c := 86) (t := 121) (X := R 86 56) rfl rfl (fun _ => rfl) rfl (hG 86 56 121 rfl rfl) ?_
  refine ev_go 9 (pc1 := 38) (lv1 := [.ref 86, .int 2, .int 23]) (st1 := [.ref 86]) (h1 := (124, (uI (uI (uI (uI (uI (uI (uI (uI (uI (uI (uI (uI (uI (uI (uI (uI (uI (uI (uI (uI (uI (uI (uI (uI I 123 2 (vp_nar .boolean 1)) 121 75 (I 121 0)) 121 76 (I 121 1)) 121 77 (I 121 2)) 121 78 (I 121 3)) 121 79 (I 121 4)) 121 80 (I 121 5)) 121 81 (I 121 6)) 121 82 (I 121 7)) 121 83 (I 121 8)) 121 84 (I 121 9)) 121 85 (I 121 10)) 121 86 (I 121 11)) 121 87 (I 121 12)) 121 88 (I 121 13)) 121 89 (I 121 14)) 121 90 (I 121 15)) 121 91 (I 121 16)) 121 92 (I 121 17)) 121 93 (I 121 18)) 121 94 (I 121 19)) 121 95 (I 121 20)) 121 96 (I 121 21)) 121 97 (I 121 22)), J, R)) rfl ?_
  refine ev_gf (c := 86) (t := 121) (X := R 86 56) rfl rfl (fun _ => rfl) rfl (hG 86 56 121 rfl rfl) ?_
  refine ev_go 8 (pc1 := 50) (lv1 := [.ref 86, .int 2, .int 23]) (st1 := [.ref 86, .int 98, .ref 121]) (h1 := (124, (uI (uI (uI (uI (uI (uI (uI (uI (uI (uI (uI (uI (uI (uI (uI (uI (uI (uI (uI (uI (uI (uI (uI (uI I 123 2 (vp_nar .boolean 1)) 121 75 (I 121 0)) 121 76 (I 121 1)) 121 77 (I 121 2)) 121 78 (I 121 3)) 121 79 (I 121 4)) 121 80 (I 121 5)) 121 81 (I 121 6)) 121 82 (I 121 7)) 121 83 (I 121 8)) 121 84 (I 121 9)) 121 85 (I 121 10)) 121 86 (I 121 11)) 121 87 (I 121 12)) 121 88 (I 121 13)) 121 89 (I 121 14)) 121 90 (I 121 15)) 121 91 (I 121 16)) 121 92 (I 121 17)) 121 93 (I 121 18)) 121 94 (I 121 19)) 121 95 (I 121 20)) 121 96 (I 121 21)) 121 97 (I 121 22)), J, R)) rfl ?_
  refine ev_gf (c := 86) (t := 121) (X := R 86 56) rfl rfl (fun _ => rfl) rfl (hG 86 56 121 rfl rfl) ?_
  refine ev_go 9 (pc1 := 38) (lv1 := [.ref 86, .int 2, .int 24]) (st1 := [.ref 86]) (h1 := (124, (uI (uI (uI (uI (uI (uI (uI (uI (uI (uI (uI (uI (uI (uI (uI (uI (uI (uI (uI (uI (uI (uI (uI (uI (uI I 123 2 (vp_nar .boolean 1)) 121 75 (I 121 0)) 121 76 (I 121 1)) 121 77 (I 121 2)) 121 78 (I 121 3)) 121 79 (I 121 4)) 121 80 (I 121 5)) 121 81 (I 121 6)) 121 82 (I 121 7)) 121 83 (I 121 8)) 121 84 (I 121 9)) 121 85 (I 121 10)) 121 86 (I 121 11)) 121 87 (I 121 12)) 121 88 (I 121 13)) 121 89 (I 121 14)) 121 90 (I 121 15)) 121 91 (I 121 16)) 121 92 (I 121 17)) 121 93 (I 121 18)) 121 94 (I 121 19)) 121 95 (I 121 20)) 121 96 (I 121 21)) 121 97 (I 121 22)) 121 98 (I 121 23)), J, R)) rfl ?_
  refine ev_gf (c := 86) (t := 121) (X := R 86 56) rfl rfl (fun _ => rfl) rfl (hG 86 56 121 rfl rfl) ?_
  refine ev_go 8 (pc1 := 50) (lv1 := [.ref 86, .int 2, .int 24]) (st1 := [.ref 86, .int 99, .ref 121]) (h1 := (124, (uI (uI (uI (uI (uI (uI (uI (uI (uI (uI (uI (uI (uI (uI (uI (uI (uI (uI (uI (uI (uI (uI (uI (uI (uI I 123 2 (vp_nar .boolean 1)) 121 75 (I 121 0)) 121 76 (I 121 1)) 121 77 (I 121 2)) 121 78 (I 121 3)) 121 79 (I 121 4)) 121 80 (I 121 5)) 121 81 (I 121 6)) 121 82 (I 121 7)) 121 83 (I 121 8)) 121 84 (I 121 9)) 121 85 (I 121 10)) 121 86 (I 121 11)) 121 87 (I 121 12)) 121 88 (I 121 13)) 121 89 (I 121 14)) 121 90 (I 121 15)) 121 91 (I 121 16)) 121 92 (I 121 17)) 121 93 (I 121 18)) 121 94 (I 121 19)) 121 95 (I 121 20)) 121 96 (I 121 21)) 121 97 (I 121 22)) 121 98 (I 121 23)), J, R)) rfl ?_
  refine ev_gf (c := 86) (t := 121) (X := R 86 56) rfl rfl (fun _ => rfl) rfl (hG 86 56 121 rfl rfl) ?_
  refine ev_go 9 (pc1 := 63) (lv1 := [.ref 86, .int 2, .int 25]) (st1 := [.ref 86]) (h1 := (124, (uI (uI (uI (uI (uI (uI (uI (uI (uI (uI (uI (uI (uI (uI (uI (uI (uI (uI (uI (uI (uI (uI (uI (uI (uI (uI I 123 2 (vp_nar .boolean 1)) 121 75 (I 121 0)) 121 76 (I 121 1)) 121 77 (I 121 2)) 121 78 (I 121 3)) 121 79 (I 121 4)) 121 80 (I 121 5)) 121 81 (I 121 6)) 121 82 (I 121 7)) 121 83 (I 121 8)) 121 84 (I 121 9)) 121 85 (I 121 10)) 121 86 (I 121 11)) 121 87 (I 121 12)) 121 88 (I 121 13)) 121 89 (I 121 14)) 121 90 (I 121 15)) 121 91 (I 121 16)) 121 92 (I 121 17)) 121 93 (I 121 18)) 121 94 (I 121 19)) 121 95 (I 121 20)) 121 96 (I 121 21)) 121 97 (I 121 22)) 121 98 (I 121 23)) 121 99 (I 121 24)), J, R)) rfl ?_
  refine ev_gf (c := 86) (t := 122) (X := R 86 57) rfl rfl (fun _ => rfl) rfl (hG 86 57 122 rfl rfl) ?_
  refine ev_go 4 (pc1 := 70) (lv1 := [.ref 86, .int 2, .int 25]) (st1 := [.ref 86, .int 3, .ref 122]) (h1 := (124, (uI (uI (uI (uI (uI (uI (uI (uI (uI (uI (uI (uI (uI (uI (uI (uI (uI (uI (uI (uI (uI (uI (uI (uI (uI (uI I 123 2 (vp_nar .boolean 1)) 121 75 (I 121 0)) 121 76 (I 121 1)) 121 77 (I 121 2)) 121 78 (I 121 3)) 121 79 (I 121 4)) 121 80 (I 121 5)) 121 81 (I 121 6)) 121 82 (I 121 7)) 121 83 (I 121 8)) 121 84 (I 121 9)) 121 85 (I 121 10)) 121 86 (I 121 11)) 121 87 (I 121 12)) 121 88 (I 121 13)) 121 89 (I 121 14)) 121 90 (I 121 15)) 121 91 (I 121 16)) 121 92 (I 121 17)) 121 93 (I 121 18)) 121 94 (I 121 19)) 121 95 (I 121 20)) 121 96 (I 121 21)) 121 97 (I 121 22)) 121 98 (I 121 23)) 121 99 (I 121 24)), J, R)) rfl ?_
  refine ev_gf (c := 86) (t := 122) (X := R 86 57) rfl rfl (fun _ => rfl) rfl (hG 86 57 122 rfl rfl) ?_
  refine ev_go 4 (pc1 := 77) (lv1 := [.ref 86, .int 2, .int 25]) (st1 := [.ref 86]) (h1 := (124, (uI (uI (uI (uI (uI (uI (uI (uI (uI (uI (uI (uI (uI (uI (uI (uI (uI (uI (uI (uI (uI (uI (uI (uI (uI (uI I 123 2 (vp_nar .boolean 1)) 121 75 (I 121 0)) 121 76 (I 121 1)) 121 77 (I 121 2)) 121 78 (I 121 3)) 121 79 (I 121 4)) 121 80 (I 121 5)) 121 81 (I 121 6)) 121 82 (I 121 7)) 121 83 (I 121 8)) 121 84 (I 121 9)) 121 85 (I 121 10)) 121 86 (I 121 11)) 121 87 (I 121 12)) 121 88 (I 121 13)) 121 89 (I 121 14)) 121 90 (I 121 15)) 121 91 (I 121 16)) 121 92 (I 121 17)) 121 93 (I 121 18)) 121 94 (I 121 19)) 121 95 (I 121 20)) 121 96 (I 121 21)) 121 97 (I 121 22)) 121 98 (I 121 23)) 121 99 (I 121 24)), (uL J 122 3 (J 122 0)), R)) rfl ?_
  refine ev_gf (c := 86) (t := 121) (X := R 86 56) rfl rfl (fun _ => rfl) rfl (hG 86 56 121 rfl rfl) ?_
  refine ev_go 2 (pc1 := 82) (lv1 := [.ref 86, .int 2, .int 25]) (st1 := [.int (I 121 1)]) (h1 := (124, (uI (uI (uI (uI (uI (uI (uI (uI (uI (uI (uI (uI (uI (uI (uI (uI (uI (uI (uI (uI (uI (uI (uI (uI (uI (uI I 123 2 (vp_nar .boolean 1)) 121 75 (I 121 0)) 121 76 (I 121 1)) 121 77 (I 121 2)) 121 78 (I 121 3)) 121 79 (I 121 4)) 121 80 (I 121 5)) 121 81 (I 121 6)) 121 82 (I 121 7)) 121 83 (I 121 8)) 121 84 (I 121 9)) 121 85 (I 121 10)) 121 86 (I 121 11)) 121 87 (I 121 12)) 121 88 (I 121 13)) 121 89 (I 121 14)) 121 90 (I 121 15)) 121 91 (I 121 16)) 121 92 (I 121 17)) 121 93 (I 121 18)) 121 94 (I 121 19)) 121 95 (I 121 20)) 121 96 (I 121 21)) 121 97 (I 121 22)) 121 98 (I 121 23)) 121 99 (I 121 24)), (uL J 122 3 (J 122 0)), R)) rfl ?_
  exact ev_ret rfl rfl
set_option maxRecDepth 20000 in
theorem tX_n {L : Nat} {xs : Nat → Int32} {d : Nat} {I : Nat → Nat → Int32} {J : Nat → Nat → Int64} {R : Nat → Nat → Nat} {a : Int32} (hG : aGd R) (b1 : a.toInt < 0) : xEv L xs d 138 0 [.ref 0, .int a, xmk] [] (124, I, J, R) (some (.int (-2))) (124, I, J, R) := by
  refine ev_go 1 (pc1 := 1) (lv1 := [.ref 0, .int a, xmk]) (st1 := [.int a]) (h1 := (124, I, J, R)) rfl ?_
  refine ev_br (b1 := true) rfl rfl (xcd_lt (x := a) (y := 0) (by rw [show ((0 : Int32)).toInt = 0 from by decide]; first | exact b1 | omega)) ?_
  refine ev_go 1 (pc1 := 11) (lv1 := [.ref 0, .int a, xmk]) (st1 := [.int (-2)]) (h1 := (124, I, J, R)) rfl ?_
  exact ev_ret rfl rfl
set_option maxRecDepth 20000 in
theorem tX_b {L : Nat} {xs : Nat → Int32} {d : Nat} {I : Nat → Nat → Int32} {J : Nat → Nat → Int64} {R : Nat → Nat → Nat} {a : Int32} (hG : aGd R) (b1 : a.toInt ≥ 0) (b2 : a.toInt ≥ 3) : xEv L xs d 138 0 [.ref 0, .int a, xmk] [] (124, I, J, R) (some (.int (-2))) (124, I, J, R) := by
  refine ev_go 1 (pc1 := 1) (lv1 := [.ref 0, .int a, xmk]) (st1 := [.int a]) (h1 := (124, I, J, R)) rfl ?_
  refine ev_br (b1 := false) rfl rfl (xcd_nlt (x := a) (y := 0) (by rw [show ((0 : Int32)).toInt = 0 from by decide]; first | exact b1 | omega)) ?_
  refine ev_go 2 (pc1 := 6) (lv1 := [.ref 0, .int a, xmk]) (st1 := [.int 3, .int a]) (h1 := (124, I, J, R)) rfl ?_
  refine ev_br (b1 := false) rfl rfl (xcd_nlt (x := a) (y := 3) (by rw [show ((3 : Int32)).toInt = 3 from by decide]; first | exact b2 | omega)) ?_
  refine ev_go 1 (pc1 := 11) (lv1 := [.ref 0, .int a, xmk]) (st1 := [.int (-2)]) (h1 := (124, I, J, R)) rfl ?_
  exact ev_ret rfl rfl
set_option maxRecDepth 20000 in
theorem tM_n {L : Nat} {xs : Nat → Int32} {d : Nat} {I : Nat → Nat → Int32} {J : Nat → Nat → Int64} {R : Nat → Nat → Nat} {a : Int32} (hG : aGd R) (c1 : xEv L xs d 234 0 [.int a] [] (124, I, J, R) (some (.int 0)) (124, I, J, R)) : xEv L xs (d + 1) 235 0 [.ref 86, .int a, xmk] [] (124, I, J, R) (some (.int (-2))) (124, I, J, R) := by
  refine ev_go 1 (pc1 := 1) (lv1 := [.ref 86, .int a, xmk]) (st1 := [.int a]) (h1 := (124, I, J, R)) rfl ?_
  refine ev_call (v1 := (some (.int 0))) (h1 := (124, I, J, R)) rfl rfl c1 ?_
  refine ev_go 2 (pc1 := 9) (lv1 := [.ref 86, .int a, xmk]) (st1 := [.int (-2)]) (h1 := (124, I, J, R)) rfl ?_
  exact ev_ret rfl rfl
set_option maxRecDepth 20000 in
theorem tX_o0 {L : Nat} {xs : Nat → Int32} {d : Nat} {I : Nat → Nat → Int32} {J : Nat → Nat → Int64} {R : Nat → Nat → Nat} (hG : aGd R) (c1 : xEv L xs d 136 0 [.ref 63, .int 0] [] (124, I, J, R) (some (.ref 71)) (124, I, J, R)) (b1 : (I 71 4).toInt = 0) : xEv L xs (d + 1) 138 0 [.ref 0, .int 0, xmk] [] (124, I, J, R) (some (.int (-4))) (124, I, J, R) := by
  refine ev_go 6 (pc1 := 13) (lv1 := [.ref 0, .int 0, xmk]) (st1 := [.ref 0]) (h1 := (124, I, J, R)) rfl ?_
  refine ev_gf (c := 0) (t := 63) (X := R 0 7) rfl rfl (fun _ => rfl) rfl (hG 0 7 63 rfl rfl) ?_
  refine ev_go 1 (pc1 := 17) (lv1 := [.ref 0, .int 0, xmk]) (st1 := [.int 0, .ref 63]) (h1 := (124, I, J, R)) rfl ?_
  refine ev_call (v1 := (some (.ref 71))) (h1 := (124, I, J, R)) rfl rfl c1 ?_
  refine ev_go 3 (pc1 := 25) (lv1 := [.ref 0, .int 0, .ref 71]) (st1 := [.int (I 71 4)]) (h1 := (124, I, J, R)) rfl ?_
  refine ev_br (b1 := false) rfl rfl (xcd_nne (x := (I 71 4)) (y := 0) (by rw [show ((0 : Int32)).toInt = 0 from by decide]; first | exact b1 | omega)) ?_
  refine ev_go 1 (pc1 := 30) (lv1 := [.ref 0, .int 0, .ref 71]) (st1 := [.int (-4)]) (h1 := (124, I, J, R)) rfl ?_
  exact ev_ret rfl rfl
set_option maxRecDepth 20000 in
theorem tX_r0 {L : Nat} {xs : Nat → Int32} {d : Nat} {I : Nat → Nat → Int32} {J : Nat → Nat → Int64} {R : Nat → Nat → Nat} (hG : aGd R) (c1 : xEv L xs d 136 0 [.ref 63, .int 0] [] (124, I, J, R) (some (.ref 71)) (124, I, J, R)) (b1 : (I 71 4).toInt ≠ 0) (c2 : xEv L xs d 137 0 [.ref 66, .ref 71] [] (124, I, J, R) none (124, (uC (uC (uC (uC (uI (uI (uI I 66 4 (I 71 4)) 66 5 (I 71 5)) 66 6 (I 71 6)) 72 67 4) 73 68 4) 74 69 4) 75 70 4), (uL J 66 7 (J 71 7)), R)) : xEv L xs (d + 1) 138 0 [.ref 0, .int 0, xmk] [] (124, I, J, R) (some (.int (I 71 5))) (124, (uC (uC (uC (uC (uI (uI (uI I 66 4 (I 71 4)) 66 5 (I 71 5)) 66 6 (I 71 6)) 72 67 4) 73 68 4) 74 69 4) 75 70 4), (uL J 66 7 (J 71 7)), R) := by
  refine ev_go 6 (pc1 := 13) (lv1 := [.ref 0, .int 0, xmk]) (st1 := [.ref 0]) (h1 := (124, I, J, R)) rfl ?_
  refine ev_gf (c := 0) (t := 63) (X := R 0 7) rfl rfl (fun _ => rfl) rfl (hG 0 7 63 rfl rfl) ?_
  refine ev_go 1 (pc1 := 17) (lv1 := [.ref 0, .int 0, xmk]) (st1 := [.int 0, .ref 63]) (h1 := (124, I, J, R)) rfl ?_
  refine ev_call (v1 := (some (.ref 71))) (h1 := (124, I, J, R)) rfl rfl c1 ?_
  refine ev_go 3 (pc1 := 25) (lv1 := [.ref 0, .int 0, .ref 71]) (st1 := [.int (I 71 4)]) (h1 := (124, I, J, R)) rfl ?_
  refine ev_br (b1 := true) rfl rfl (xcd_ne (x := (I 71 4)) (y := 0) (by rw [show ((0 : Int32)).toInt = 0 from by decide]; first | exact b1 | omega)) ?_
  refine ev_go 1 (pc1 := 32) (lv1 := [.ref 0, .int 0, .ref 71]) (st1 := [.ref 0]) (h1 := (124, I, J, R)) rfl ?_
  refine ev_gf (c := 0) (t := 63) (X := R 0 7) rfl rfl (fun _ => rfl) rfl (hG 0 7 63 rfl rfl) ?_
  refine ev_gf (c := 63) (t := 66) (X := R 63 3) rfl rfl (fun _ => rfl) rfl (hG 63 3 66 rfl rfl) ?_
  refine ev_go 1 (pc1 := 39) (lv1 := [.ref 0, .int 0, .ref 71]) (st1 := [.ref 71, .ref 66]) (h1 := (124, I, J, R)) rfl ?_
  refine ev_call (v1 := none) (h1 := (124, (uC (uC (uC (uC (uI (uI (uI I 66 4 (I 71 4)) 66 5 (I 71 5)) 66 6 (I 71 6)) 72 67 4) 73 68 4) 74 69 4) 75 70 4), (uL J 66 7 (J 71 7)), R)) rfl rfl c2 ?_
  refine ev_go 1 (pc1 := 43) (lv1 := [.ref 0, .int 0, .ref 71]) (st1 := [.ref 0]) (h1 := (124, (uC (uC (uC (uC (uI (uI (uI I 66 4 (I 71 4)) 66 5 (I 71 5)) 66 6 (I 71 6)) 72 67 4) 73 68 4) 74 69 4) 75 70 4), (uL J 66 7 (J 71 7)), R)) rfl ?_
  refine ev_gf (c := 0) (t := 63) (X := R 0 7) rfl rfl (fun _ => rfl) rfl (hG 0 7 63 rfl rfl) ?_
  refine ev_gf (c := 63) (t := 66) (X := R 63 3) rfl rfl (fun _ => rfl) rfl (hG 63 3 66 rfl rfl) ?_
  refine ev_go 1 (pc1 := 52) (lv1 := [.ref 0, .int 0, .ref 71]) (st1 := [.int (I 71 5)]) (h1 := (124, (uC (uC (uC (uC (uI (uI (uI I 66 4 (I 71 4)) 66 5 (I 71 5)) 66 6 (I 71 6)) 72 67 4) 73 68 4) 74 69 4) 75 70 4), (uL J 66 7 (J 71 7)), R)) rfl ?_
  exact ev_ret rfl rfl
set_option maxRecDepth 20000 in
theorem tM_o0 {L : Nat} {xs : Nat → Int32} {d : Nat} {I : Nat → Nat → Int32} {J : Nat → Nat → Int64} {R : Nat → Nat → Nat} (hG : aGd R) (c1 : xEv L xs d 234 0 [.int 0] [] (124, I, J, R) (some (.int 1)) (124, I, J, R)) (b1 : (I 123 0).toInt = 0) : xEv L xs (d + 1) 235 0 [.ref 86, .int 0, xmk] [] (124, I, J, R) (some (.int (-4))) (124, I, J, R) := by
  refine ev_go 1 (pc1 := 1) (lv1 := [.ref 86, .int 0, xmk]) (st1 := [.int 0]) (h1 := (124, I, J, R)) rfl ?_
  refine ev_call (v1 := (some (.int 1))) (h1 := (124, I, J, R)) rfl rfl c1 ?_
  refine ev_go 2 (pc1 := 11) (lv1 := [.ref 86, .int 0, xmk]) (st1 := [.ref 86]) (h1 := (124, I, J, R)) rfl ?_
  refine ev_gf (c := 86) (t := 123) (X := R 86 58) rfl rfl (fun _ => rfl) rfl (hG 86 58 123 rfl rfl) ?_
  refine ev_go 2 (pc1 := 16) (lv1 := [.ref 86, .int 0, xmk]) (st1 := [.int (I 123 0)]) (h1 := (124, I, J, R)) rfl ?_
  refine ev_br (b1 := false) rfl rfl (xcd_nne (x := (I 123 0)) (y := 0) (by rw [show ((0 : Int32)).toInt = 0 from by decide]; first | exact b1 | omega)) ?_
  refine ev_go 1 (pc1 := 21) (lv1 := [.ref 86, .int 0, xmk]) (st1 := [.int (-4)]) (h1 := (124, I, J, R)) rfl ?_
  exact ev_ret rfl rfl
set_option maxRecDepth 20000 in
theorem tM_r0 {L : Nat} {xs : Nat → Int32} {d : Nat} {I : Nat → Nat → Int32} {J : Nat → Nat → Int64} {R : Nat → Nat → Nat} (hG : aGd R) (c1 : xEv L xs d 234 0 [.int 0] [] (124, I, J, R) (some (.int 1)) (124, I, J, R)) (b1 : (I 123 0).toInt ≠ 0) : xEv L xs (d + 1) 235 0 [.ref 86, .int 0, xmk] [] (124, I, J, R) (some (.int (I 121 26))) (124, (uI (uI (uI (uI (uI (uI (uI (uI (uI (uI (uI (uI (uI (uI (uI (uI (uI (uI (uI (uI (uI (uI (uI (uI (uI I 121 0 (I 121 25)) 121 1 (I 121 26)) 121 2 (I 121 27)) 121 3 (I 121 28)) 121 4 (I 121 29)) 121 5 (I 121 30)) 121 6 (I 121 31)) 121 7 (I 121 32)) 121 8 (I 121 33)) 121 9 (I 121 34)) 121 10 (I 121 35)) 121 11 (I 121 36)) 121 12 (I 121 37)) 121 13 (I 121 38)) 121 14 (I 121 39)) 121 15 (I 121 40)) 121 16 (I 121 41)) 121 17 (I 121 42)) 121 18 (I 121 43)) 121 19 (I 121 44)) 121 20 (I 121 45)) 121 21 (I 121 46)) 121 22 (I 121 47)) 121 23 (I 121 48)) 121 24 (I 121 49)), (uL J 122 0 (J 122 1)), R) := by
  refine ev_go 1 (pc1 := 1) (lv1 := [.ref 86, .int 0, xmk]) (st1 := [.int 0]) (h1 := (124, I, J, R)) rfl ?_
  refine ev_call (v1 := (some (.int 1))) (h1 := (124, I, J, R)) rfl rfl c1 ?_
  refine ev_go 2 (pc1 := 11) (lv1 := [.ref 86, .int 0, xmk]) (st1 := [.ref 86]) (h1 := (124, I, J, R)) rfl ?_
  refine ev_gf (c := 86) (t := 123) (X := R 86 58) rfl rfl (fun _ => rfl) rfl (hG 86 58 123 rfl rfl) ?_
  refine ev_go 2 (pc1 := 16) (lv1 := [.ref 86, .int 0, xmk]) (st1 := [.int (I 123 0)]) (h1 := (124, I, J, R)) rfl ?_
  refine ev_br (b1 := true) rfl rfl (xcd_ne (x := (I 123 0)) (y := 0) (by rw [show ((0 : Int32)).toInt = 0 from by decide]; first | exact b1 | omega)) ?_
  refine ev_go 6 (pc1 := 31) (lv1 := [.ref 86, .int 0, .int 0]) (st1 := [.ref 86]) (h1 := (124, I, J, R)) rfl ?_
  refine ev_gf (c := 86) (t := 121) (X := R 86 56) rfl rfl (fun _ => rfl) rfl (hG 86 56 121 rfl rfl) ?_
  refine ev_go 2 (pc1 := 36) (lv1 := [.ref 86, .int 0, .int 0]) (st1 := [.ref 86, .int 0, .ref 121]) (h1 := (124, I, J, R)) rfl ?_
  refine ev_gf (c := 86) (t := 121) (X := R 86 56) rfl rfl (fun _ => rfl) rfl (hG 86 56 121 rfl rfl) ?_
  refine ev_go 15 (pc1 := 31) (lv1 := [.ref 86, .int 0, .int 1]) (st1 := [.ref 86]) (h1 := (124, (uI I 121 0 (I 121 25)), J, R)) rfl ?_
  refine ev_gf (c := 86) (t := 121) (X := R 86 56) rfl rfl (fun _ => rfl) rfl (hG 86 56 121 rfl rfl) ?_
  refine ev_go 2 (pc1 := 36) (lv1 := [.ref 86, .int 0, .int 1]) (st1 := [.ref 86, .int 1, .ref 121]) (h1 := (124, (uI I 121 0 (I 121 25)), J, R)) rfl ?_
  refine ev_gf (c := 86) (t := 121) (X := R 86 56) rfl rfl (fun _ => rfl) rfl (hG 86 56 121 rfl rfl) ?_
  refine ev_go 15 (pc1 := 31) (lv1 := [.ref 86, .int 0, .int 2]) (st1 := [.ref 86]) (h1 := (124, (uI (uI I 121 0 (I 121 25)) 121 1 (I 121 26)), J, R)) rfl ?_
  refine ev_gf (c := 86) (t := 121) (X := R 86 56) rfl rfl (fun _ => rfl) rfl (hG 86 56 121 rfl rfl) ?_
  refine ev_go 2 (pc1 := 36) (lv1 := [.ref 86, .int 0, .int 2]) (st1 := [.ref 86, .int 2, .ref 121]) (h1 := (124, (uI (uI I 121 0 (I 121 25)) 121 1 (I 121 26)), J, R)) rfl ?_
  refine ev_gf (c := 86) (t := 121) (X := R 86 56) rfl rfl (fun _ => rfl) rfl (hG 86 56 121 rfl rfl) ?_
  refine ev_go 15 (pc1 := 31) (lv1 := [.ref 86, .int 0, .int 3]) (st1 := [.ref 86]) (h1 := (124, (uI (uI (uI I 121 0 (I 121 25)) 121 1 (I 121 26)) 121 2 (I 121 27)), J, R)) rfl ?_
  refine ev_gf (c := 86) (t := 121) (X := R 86 56) rfl rfl (fun _ => rfl) rfl (hG 86 56 121 rfl rfl) ?_
  refine ev_go 2 (pc1 := 36) (lv1 := [.ref 86, .int 0, .int 3]) (st1 := [.ref 86, .int 3, .ref 121]) (h1 := (124, (uI (uI (uI I 121 0 (I 121 25)) 121 1 (I 121 26)) 121 2 (I 121 27)), J, R)) rfl ?_
  refine ev_gf (c := 86) (t := 121) (X := R 86 56) rfl rfl (fun _ => rfl) rfl (hG 86 56 121 rfl rfl) ?_
  refine ev_go 15 (pc1 := 31) (lv1 := [.ref 86, .int 0, .int 4]) (st1 := [.ref 86]) (h1 := (124, (uI (uI (uI (uI I 121 0 (I 121 25)) 121 1 (I 121 26)) 121 2 (I 121 27)) 121 3 (I 121 28)), J, R)) rfl ?_
  refine ev_gf (c := 86) (t := 121) (X := R 86 56) rfl rfl (fun _ => rfl) rfl (hG 86 56 121 rfl rfl) ?_
  refine ev_go 2 (pc1 := 36) (lv1 := [.ref 86, .int 0, .int 4]) (st1 := [.ref 86, .int 4, .ref 121]) (h1 := (124, (uI (uI (uI (uI I 121 0 (I 121 25)) 121 1 (I 121 26)) 121 2 (I 121 27)) 121 3 (I 121 28)), J, R)) rfl ?_
  refine ev_gf (c := 86) (t := 121) (X := R 86 56) rfl rfl (fun _ => rfl) rfl (hG 86 56 121 rfl rfl) ?_
  refine ev_go 15 (pc1 := 31) (lv1 := [.ref 86, .int 0, .int 5]) (st1 := [.ref 86]) (h1 := (124, (uI (uI (uI (uI (uI I 121 0 (I 121 25)) 121 1 (I 121 26)) 121 2 (I 121 27)) 121 3 (I 121 28)) 121 4 (I 121 29)), J, R)) rfl ?_
  refine ev_gf (c := 86) (t := 121) (X := R 86 56) rfl rfl (fun _ => rfl) rfl (hG 86 56 121 rfl rfl) ?_
  refine ev_go 2 (pc1 := 36) (lv1 := [.ref 86, .int 0, .int 5]) (st1 := [.ref 86, .int 5, .ref 121]) (h1 := (124, (uI (uI (uI (uI (uI I 121 0 (I 121 25)) 121 1 (I 121 26)) 121 2 (I 121 27)) 121 3 (I 121 28)) 121 4 (I 121 29)), J, R)) rfl ?_
  refine ev_gf (c := 86) (t := 121) (X := R 86 56) rfl rfl (fun _ => rfl) rfl (hG 86 56 121 rfl rfl) ?_
  refine ev_go 15 (pc1 := 31) (lv1 := [.ref 86, .int 0, .int 6]) (st1 := [.ref 86]) (h1 := (124, (uI (uI (uI (uI (uI (uI I 121 0 (I 121 25)) 121 1 (I 121 26)) 121 2 (I 121 27)) 121 3 (I 121 28)) 121 4 (I 121 29)) 121 5 (I 121 30)), J, R)) rfl ?_
  refine ev_gf (c := 86) (t := 121) (X := R 86 56) rfl rfl (fun _ => rfl) rfl (hG 86 56 121 rfl rfl) ?_
  refine ev_go 2 (pc1 := 36) (lv1 := [.ref 86, .int 0, .int 6]) (st1 := [.ref 86, .int 6, .ref 121]) (h1 := (124, (uI (uI (uI (uI (uI (uI I 121 0 (I 121 25)) 121 1 (I 121 26)) 121 2 (I 121 27)) 121 3 (I 121 28)) 121 4 (I 121 29)) 121 5 (I 121 30)), J, R)) rfl ?_
  refine ev_gf (c := 86) (t := 121) (X := R 86 56) rfl rfl (fun _ => rfl) rfl (hG 86 56 121 rfl rfl) ?_
  refine ev_go 15 (pc1 := 31) (lv1 := [.ref 86, .int 0, .int 7]) (st1 := [.ref 86]) (h1 := (124, (uI (uI (uI (uI (uI (uI (uI I 121 0 (I 121 25)) 121 1 (I 121 26)) 121 2 (I 121 27)) 121 3 (I 121 28)) 121 4 (I 121 29)) 121 5 (I 121 30)) 121 6 (I 121 31)), J, R)) rfl ?_
  refine ev_gf (c := 86) (t := 121) (X := R 86 56) rfl rfl (fun _ => rfl) rfl (hG 86 56 121 rfl rfl) ?_
  refine ev_go 2 (pc1 := 36) (lv1 := [.ref 86, .int 0, .int 7]) (st1 := [.ref 86, .int 7, .ref 121]) (h1 := (124, (uI (uI (uI (uI (uI (uI (uI I 121 0 (I 121 25)) 121 1 (I 121 26)) 121 2 (I 121 27)) 121 3 (I 121 28)) 121 4 (I 121 29)) 121 5 (I 121 30)) 121 6 (I 121 31)), J, R)) rfl ?_
  refine ev_gf (c := 86) (t := 121) (X := R 86 56) rfl rfl (fun _ => rfl) rfl (hG 86 56 121 rfl rfl) ?_
  refine ev_go 15 (pc1 := 31) (lv1 := [.ref 86, .int 0, .int 8]) (st1 := [.ref 86]) (h1 := (124, (uI (uI (uI (uI (uI (uI (uI (uI I 121 0 (I 121 25)) 121 1 (I 121 26)) 121 2 (I 121 27)) 121 3 (I 121 28)) 121 4 (I 121 29)) 121 5 (I 121 30)) 121 6 (I 121 31)) 121 7 (I 121 32)), J, R)) rfl ?_
  refine ev_gf (c := 86) (t := 121) (X := R 86 56) rfl rfl (fun _ => rfl) rfl (hG 86 56 121 rfl rfl) ?_
  refine ev_go 2 (pc1 := 36) (lv1 := [.ref 86, .int 0, .int 8]) (st1 := [.ref 86, .int 8, .ref 121]) (h1 := (124, (uI (uI (uI (uI (uI (uI (uI (uI I 121 0 (I 121 25)) 121 1 (I 121 26)) 121 2 (I 121 27)) 121 3 (I 121 28)) 121 4 (I 121 29)) 121 5 (I 121 30)) 121 6 (I 121 31)) 121 7 (I 121 32)), J, R)) rfl ?_
  refine ev_gf (c := 86) (t := 121) (X := R 86 56) rfl rfl (fun _ => rfl) rfl (hG 86 56 121 rfl rfl) ?_
  refine ev_go 15 (pc1 := 31) (lv1 := [.ref 86, .int 0, .int 9]) (st1 := [.ref 86]) (h1 := (124, (uI (uI (uI (uI (uI (uI (uI (uI (uI I 121 0 (I 121 25)) 121 1 (I 121 26)) 121 2 (I 121 27)) 121 3 (I 121 28)) 121 4 (I 121 29)) 121 5 (I 121 30)) 121 6 (I 121 31)) 121 7 (I 121 32)) 121 8 (I 121 33)), J, R)) rfl ?_
  refine ev_gf (c := 86) (t := 121) (X := R 86 56) rfl rfl (fun _ => rfl) rfl (hG 86 56 121 rfl rfl) ?_
  refine ev_go 2 (pc1 := 36) (lv1 := [.ref 86, .int 0, .int 9]) (st1 := [.ref 86, .int 9, .ref 121]) (h1 := (124, (uI (uI (uI (uI (uI (uI (uI (uI (uI I 121 0 (I 121 25)) 121 1 (I 121 26)) 121 2 (I 121 27)) 121 3 (I 121 28)) 121 4 (I 121 29)) 121 5 (I 121 30)) 121 6 (I 121 31)) 121 7 (I 121 32)) 121 8 (I 121 33)), J, R)) rfl ?_
  refine ev_gf (c := 86) (t := 121) (X := R 86 56) rfl rfl (fun _ => rfl) rfl (hG 86 56 121 rfl rfl) ?_
  refine ev_go 15 (pc1 := 31) (lv1 := [.ref 86, .int 0, .int 10]) (st1 := [.ref 86]) (h1 := (124, (uI (uI (uI (uI (uI (uI (uI (uI (uI (uI I 121 0 (I 121 25)) 121 1 (I 121 26)) 121 2 (I 121 27)) 121 3 (I 121 28)) 121 4 (I 121 29)) 121 5 (I 121 30)) 121 6 (I 121 31)) 121 7 (I 121 32)) 121 8 (I 121 33)) 121 9 (I 121 34)), J, R)) rfl ?_
  refine ev_gf (c := 86) (t := 121) (X := R 86 56) rfl rfl (fun _ => rfl) rfl (hG 86 56 121 rfl rfl) ?_
  refine ev_go 2 (pc1 := 36) (lv1 := [.ref 86, .int 0, .int 10]) (st1 := [.ref 86, .int 10, .ref 121]) (h1 := (124, (uI (uI (uI (uI (uI (uI (uI (uI (uI (uI I 121 0 (I 121 25)) 121 1 (I 121 26)) 121 2 (I 121 27)) 121 3 (I 121 28)) 121 4 (I 121 29)) 121 5 (I 121 30)) 121 6 (I 121 31)) 121 7 (I 121 32)) 121 8 (I 121 33)) 121 9 (I 121 34)), J, R)) rfl ?_
  refine ev_gf (c := 86) (t := 121) (X := R 86 56) rfl rfl (fun _ => rfl) rfl (hG 86 56 121 rfl rfl) ?_
  refine ev_go 15 (pc1 := 31) (lv1 := [.ref 86, .int 0, .int 11]) (st1 := [.ref 86]) (h1 := (124, (uI (uI (uI (uI (uI (uI (uI (uI (uI (uI (uI I 121 0 (I 121 25)) 121 1 (I 121 26)) 121 2 (I 121 27)) 121 3 (I 121 28)) 121 4 (I 121 29)) 121 5 (I 121 30)) 121 6 (I 121 31)) 121 7 (I 121 32)) 121 8 (I 121 33)) 121 9 (I 121 34)) 121 10 (I 121 35)), J, R)) rfl ?_
  refine ev_gf (c := 86) (t := 121) (X := R 86 56) rfl rfl (fun _ => rfl) rfl (hG 86 56 121 rfl rfl) ?_
  refine ev_go 2 (pc1 := 36) (lv1 := [.ref 86, .int 0, .int 11]) (st1 := [.ref 86, .int 11, .ref 121]) (h1 := (124, (uI (uI (uI (uI (uI (uI (uI (uI (uI (uI (uI I 121 0 (I 121 25)) 121 1 (I 121 26)) 121 2 (I 121 27)) 121 3 (I 121 28)) 121 4 (I 121 29)) 121 5 (I 121 30)) 121 6 (I 121 31)) 121 7 (I 121 32)) 121 8 (I 121 33)) 121 9 (I 121 34)) 121 10 (I 121 35)), J, R)) rfl ?_
  refine ev_gf (c := 86) (t := 121) (X := R 86 56) rfl rfl (fun _ => rfl) rfl (hG 86 56 121 rfl rfl) ?_
  refine ev_go 15 (pc1 := 31) (lv1 := [.ref 86, .int 0, .int 12]) (st1 := [.ref 86]) (h1 := (124, (uI (uI (uI (uI (uI (uI (uI (uI (uI (uI (uI (uI I 121 0 (I 121 25)) 121 1 (I 121 26)) 121 2 (I 121 27)) 121 3 (I 121 28)) 121 4 (I 121 29)) 121 5 (I 121 30)) 121 6 (I 121 31)) 121 7 (I 121 32)) 121 8 (I 121 33)) 121 9 (I 121 34)) 121 10 (I 121 35)) 121 11 (I 121 36)), J, R)) rfl ?_
  refine ev_gf (c := 86) (t := 121) (X := R 86 56) rfl rfl (fun _ => rfl) rfl (hG 86 56 121 rfl rfl) ?_
  refine ev_go 2 (pc1 := 36) (lv1 := [.ref 86, .int 0, .int 12]) (st1 := [.ref 86, .int 12, .ref 121]) (h1 := (124, (uI (uI (uI (uI (uI (uI (uI (uI (uI (uI (uI (uI I 121 0 (I 121 25)) 121 1 (I 121 26)) 121 2 (I 121 27)) 121 3 (I 121 28)) 121 4 (I 121 29)) 121 5 (I 121 30)) 121 6 (I 121 31)) 121 7 (I 121 32)) 121 8 (I 121 33)) 121 9 (I 121 34)) 121 10 (I 121 35)) 121 11 (I 121 36)), J, R)) rfl ?_
  refine ev_gf (c := 86) (t := 121) (X := R 86 56) rfl rfl (fun _ => rfl) rfl (hG 86 56 121 rfl rfl) ?_
  refine ev_go 15 (pc1 := 31) (lv1 := [.ref 86, .int 0, .int 13]) (st1 := [.ref 86]) (h1 := (124, (uI (uI (uI (uI (uI (uI (uI (uI (uI (uI (uI (uI (uI I 121 0 (I 121 25)) 121 1 (I 121 26)) 121 2 (I 121 27)) 121 3 (I 121 28)) 121 4 (I 121 29)) 121 5 (I 121 30)) 121 6 (I 121 31)) 121 7 (I 121 32)) 121 8 (I 121 33)) 121 9 (I 121 34)) 121 10 (I 121 35)) 121 11 (I 121 36)) 121 12 (I 121 37)), J, R)) rfl ?_
  refine ev_gf (c := 86) (t := 121) (X := R 86 56) rfl rfl (fun _ => rfl) rfl (hG 86 56 121 rfl rfl) ?_
  refine ev_go 2 (pc1 := 36) (lv1 := [.ref 86, .int 0, .int 13]) (st1 := [.ref 86, .int 13, .ref 121]) (h1 := (124, (uI (uI (uI (uI (uI (uI (uI (uI (uI (uI (uI (uI (uI I 121 0 (I 121 25)) 121 1 (I 121 26)) 121 2 (I 121 27)) 121 3 (I 121 28)) 121 4 (I 121 29)) 121 5 (I 121 30)) 121 6 (I 121 31)) 121 7 (I 121 32)) 121 8 (I 121 33)) 121 9 (I 121 34)) 121 10 (I 121 35)) 121 11 (I 121 36)) 121 12 (I 121 37)), J, R)) rfl ?_
  refine ev_gf (c := 86) (t := 121) (X := R 86 56) rfl rfl (fun _ => rfl) rfl (hG 86 56 121 rfl rfl) ?_
  refine ev_go 15 (pc1 := 31) (lv1 := [.ref 86, .int 0, .int 14]) (st1 := [.ref 86]) (h1 := (124, (uI (uI (uI (uI (uI (uI (uI (uI (uI (uI (uI (uI (uI (uI I 121 0 (I 121 25)) 121 1 (I 121 26)) 121 2 (I 121 27)) 121 3 (I 121 28)) 121 4 (I 121 29)) 121 5 (I 121 30)) 121 6 (I 121 31)) 121 7 (I 121 32)) 121 8 (I 121 33)) 121 9 (I 121 34)) 121 10 (I 121 35)) 121 11 (I 121 36)) 121 12 (I 121 37)) 121 13 (I 121 38)), J, R)) rfl ?_
  refine ev_gf (c := 86) (t := 121) (X := R 86 56) rfl rfl (fun _ => rfl) rfl (hG 86 56 121 rfl rfl) ?_
  refine ev_go 2 (pc1 := 36) (lv1 := [.ref 86, .int 0, .int 14]) (st1 := [.ref 86, .int 14, .ref 121]) (h1 := (124, (uI (uI (uI (uI (uI (uI (uI (uI (uI (uI (uI (uI (uI (uI I 121 0 (I 121 25)) 121 1 (I 121 26)) 121 2 (I 121 27)) 121 3 (I 121 28)) 121 4 (I 121 29)) 121 5 (I 121 30)) 121 6 (I 121 31)) 121 7 (I 121 32)) 121 8 (I 121 33)) 121 9 (I 121 34)) 121 10 (I 121 35)) 121 11 (I 121 36)) 121 12 (I 121 37)) 121 13 (I 121 38)), J, R)) rfl ?_
  refine ev_gf (c := 86) (t := 121) (X := R 86 56) rfl rfl (fun _ => rfl) rfl (hG 86 56 121 rfl rfl) ?_
  refine ev_go 15 (pc1 := 31) (lv1 := [.ref 86, .int 0, .int 15]) (st1 := [.ref 86]) (h1 := (124, (uI (uI (uI (uI (uI (uI (uI (uI (uI (uI (uI (uI (uI (uI (uI I 121 0 (I 121 25)) 121 1 (I 121 26)) 121 2 (I 121 27)) 121 3 (I 121 28)) 121 4 (I 121 29)) 121 5 (I 121 30)) 121 6 (I 121 31)) 121 7 (I 121 32)) 121 8 (I 121 33)) 121 9 (I 121 34)) 121 10 (I 121 35)) 121 11 (I 121 36)) 121 12 (I 121 37)) 121 13 (I 121 38)) 121 14 (I 121 39)), J, R)) rfl ?_
  refine ev_gf (c := 86) (t := 121) (X := R 86 56) rfl rfl (fun _ => rfl) rfl (hG 86 56 121 rfl rfl) ?_
  refine ev_go 2 (pc1 := 36) (lv1 := [.ref 86, .int 0, .int 15]) (st1 := [.ref 86, .int 15, .ref 121]) (h1 := (124, (uI (uI (uI (uI (uI (uI (uI (uI (uI (uI (uI (uI (uI (uI (uI I 121 0 (I 121 25)) 121 1 (I 121 26)) 121 2 (I 121 27)) 121 3 (I 121 28)) 121 4 (I 121 29)) 121 5 (I 121 30)) 121 6 (I 121 31)) 121 7 (I 121 32)) 121 8 (I 121 33)) 121 9 (I 121 34)) 121 10 (I 121 35)) 121 11 (I 121 36)) 121 12 (I 121 37)) 121 13 (I 121 38)) 121 14 (I 121 39)), J, R)) rfl ?_
  refine ev_gf (c := 86) (t := 121) (X := R 86 56) rfl rfl (fun _ => rfl) rfl (hG 86 56 121 rfl rfl) ?_
  refine ev_go 15 (pc1 := 31) (lv1 := [.ref 86, .int 0, .int 16]) (st1 := [.ref 86]) (h1 := (124, (uI (uI (uI (uI (uI (uI (uI (uI (uI (uI (uI (uI (uI (uI (uI (uI I 121 0 (I 121 25)) 121 1 (I 121 26)) 121 2 (I 121 27)) 121 3 (I 121 28)) 121 4 (I 121 29)) 121 5 (I 121 30)) 121 6 (I 121 31)) 121 7 (I 121 32)) 121 8 (I 121 33)) 121 9 (I 121 34)) 121 10 (I 121 35)) 121 11 (I 121 36)) 121 12 (I 121 37)) 121 13 (I 121 38)) 121 14 (I 121 39)) 121 15 (I 121 40)), J, R)) rfl ?_
  refine ev_gf (c := 86) (t := 121) (X := R 86 56) rfl rfl (fun _ => rfl) rfl (hG 86 56 121 rfl rfl) ?_
  refine ev_go 2 (pc1 := 36) (lv1 := [.ref 86, .int 0, .int 16]) (st1 := [.ref 86, .int 16, .ref 121]) (h1 := (124, (uI (uI (uI (uI (uI (uI (uI (uI (uI (uI (uI (uI (uI (uI (uI (uI I 121 0 (I 121 25)) 121 1 (I 121 26)) 121 2 (I 121 27)) 121 3 (I 121 28)) 121 4 (I 121 29)) 121 5 (I 121 30)) 121 6 (I 121 31)) 121 7 (I 121 32)) 121 8 (I 121 33)) 121 9 (I 121 34)) 121 10 (I 121 35)) 121 11 (I 121 36)) 121 12 (I 121 37)) 121 13 (I 121 38)) 121 14 (I 121 39)) 121 15 (I 121 40)), J, R)) rfl ?_
  refine ev_gf (c := 86) (t := 121) (X := R 86 56) rfl rfl (fun _ => rfl) rfl (hG 86 56 121 rfl rfl) ?_
  refine ev_go 15 (pc1 := 31) (lv1 := [.ref 86, .int 0, .int 17]) (st1 := [.ref 86]) (h1 := (124, (uI (uI (uI (uI (uI (uI (uI (uI (uI (uI (uI (uI (uI (uI (uI (uI (uI I 121 0 (I 121 25)) 121 1 (I 121 26)) 121 2 (I 121 27)) 121 3 (I 121 28)) 121 4 (I 121 29)) 121 5 (I 121 30)) 121 6 (I 121 31)) 121 7 (I 121 32)) 121 8 (I 121 33)) 121 9 (I 121 34)) 121 10 (I 121 35)) 121 11 (I 121 36)) 121 12 (I 121 37)) 121 13 (I 121 38)) 121 14 (I 121 39)) 121 15 (I 121 40)) 121 16 (I 121 41)), J, R)) rfl ?_
  refine ev_gf (c := 86) (t := 121) (X := R 86 56) rfl rfl (fun _ => rfl) rfl (hG 86 56 121 rfl rfl) ?_
  refine ev_go 2 (pc1 := 36) (lv1 := [.ref 86, .int 0, .int 17]) (st1 := [.ref 86, .int 17, .ref 121]) (h1 := (124, (uI (uI (uI (uI (uI (uI (uI (uI (uI (uI (uI (uI (uI (uI (uI (uI (uI I 121 0 (I 121 25)) 121 1 (I 121 26)) 121 2 (I 121 27)) 121 3 (I 121 28)) 121 4 (I 121 29)) 121 5 (I 121 30)) 121 6 (I 121 31)) 121 7 (I 121 32)) 121 8 (I 121 33)) 121 9 (I 121 34)) 121 10 (I 121 35)) 121 11 (I 121 36)) 121 12 (I 121 37)) 121 13 (I 121 38)) 121 14 (I 121 39)) 121 15 (I 121 40)) 121 16 (I 121 41)), J, R)) rfl ?_
  refine ev_gf (c := 86) (t := 121) (X := R 86 56) rfl rfl (fun _ => rfl) rfl (hG 86 56 121 rfl rfl) ?_
  refine ev_go 15 (pc1 := 31) (lv1 := [.ref 86, .int 0, .int 18]) (st1 := [.ref 86]) (h1 := (124, (uI (uI (uI (uI (uI (uI (uI (uI (uI (uI (uI (uI (uI (uI (uI (uI (uI (uI I 121 0 (I 121 25)) 121 1 (I 121 26)) 121 2 (I 121 27)) 121 3 (I 121 28)) 121 4 (I 121 29)) 121 5 (I 121 30)) 121 6 (I 121 31)) 121 7 (I 121 32)) 121 8 (I 121 33)) 121 9 (I 121 34)) 121 10 (I 121 35)) 121 11 (I 121 36)) 121 12 (I 121 37)) 121 13 (I 121 38)) 121 14 (I 121 39)) 121 15 (I 121 40)) 121 16 (I 121 41)) 121 17 (I 121 42)), J, R)) rfl ?_
  refine ev_gf (c := 86) (t := 121) (X := R 86 56) rfl rfl (fun _ => rfl) rfl (hG 86 56 121 rfl rfl) ?_
  refine ev_go 2 (pc1 := 36) (lv1 := [.ref 86, .int 0, .int 18]) (st1 := [.ref 86, .int 18, .ref 121]) (h1 := (124, (uI (uI (uI (uI (uI (uI (uI (uI (uI (uI (uI (uI (uI (uI (uI (uI (uI (uI I 121 0 (I 121 25)) 121 1 (I 121 26)) 121 2 (I 121 27)) 121 3 (I 121 28)) 121 4 (I 121 29)) 121 5 (I 121 30)) 121 6 (I 121 31)) 121 7 (I 121 32)) 121 8 (I 121 33)) 121 9 (I 121 34)) 121 10 (I 121 35)) 121 11 (I 121 36)) 121 12 (I 121 37)) 121 13 (I 121 38)) 121 14 (I 121 39)) 121 15 (I 121 40)) 121 16 (I 121 41)) 121 17 (I 121 42)), J, R)) rfl ?_
  refine ev_gf (c := 86) (t := 121) (X := R 86 56) rfl rfl (fun _ => rfl) rfl (hG 86 56 121 rfl rfl) ?_
  refine ev_go 15 (pc1 := 31) (lv1 := [.ref 86, .int 0, .int 19]) (st1 := [.ref 86]) (h1 := (124, (uI (uI (uI (uI (uI (uI (uI (uI (uI (uI (uI (uI (uI (uI (uI (uI (uI (uI (uI I 121 0 (I 121 25)) 121 1 (I 121 26)) 121 2 (I 121 27)) 121 3 (I 121 28)) 121 4 (I 121 29)) 121 5 (I 121 30)) 121 6 (I 121 31)) 121 7 (I 121 32)) 121 8 (I 121 33)) 121 9 (I 121 34)) 121 10 (I 121 35)) 121 11 (I 121 36)) 121 12 (I 121 37)) 121 13 (I 121 38)) 121 14 (I 121 39)) 121 15 (I 121 40)) 121 16 (I 121 41)) 121 17 (I 121 42)) 121 18 (I 121 43)), J, R)) rfl ?_
  refine ev_gf (c := 86) (t := 121) (X := R 86 56) rfl rfl (fun _ => rfl) rfl (hG 86 56 121 rfl rfl) ?_
  refine ev_go 2 (pc1 := 36) (lv1 := [.ref 86, .int 0, .int 19]) (st1 := [.ref 86, .int 19, .ref 121]) (h1 := (124, (uI (uI (uI (uI (uI (uI (uI (uI (uI (uI (uI (uI (uI (uI (uI (uI (uI (uI (uI I 121 0 (I 121 25)) 121 1 (I 121 26)) 121 2 (I 121 27)) 121 3 (I 121 28)) 121 4 (I 121 29)) 121 5 (I 121 30)) 121 6 (I 121 31)) 121 7 (I 121 32)) 121 8 (I 121 33)) 121 9 (I 121 34)) 121 10 (I 121 35)) 121 11 (I 121 36)) 121 12 (I 121 37)) 121 13 (I 121 38)) 121 14 (I 121 39)) 121 15 (I 121 40)) 121 16 (I 121 41)) 121 17 (I 121 42)) 121 18 (I 121 43)), J, R)) rfl ?_
  refine ev_gf (c := 86) (t := 121) (X := R 86 56) rfl rfl (fun _ => rfl) rfl (hG 86 56 121 rfl rfl) ?_
  refine ev_go 15 (pc1 := 31) (lv1 := [.ref 86, .int 0, .int 20]) (st1 := [.ref 86]) (h1 := (124, (uI (uI (uI (uI (uI (uI (uI (uI (uI (uI (uI (uI (uI (uI (uI (uI (uI (uI (uI (uI I 121 0 (I 121 25)) 121 1 (I 121 26)) 121 2 (I 121 27)) 121 3 (I 121 28)) 121 4 (I 121 29)) 121 5 (I 121 30)) 121 6 (I 121 31)) 121 7 (I 121 32)) 121 8 (I 121 33)) 121 9 (I 121 34)) 121 10 (I 121 35)) 121 11 (I 121 36)) 121 12 (I 121 37)) 121 13 (I 121 38)) 121 14 (I 121 39)) 121 15 (I 121 40)) 121 16 (I 121 41)) 121 17 (I 121 42)) 121 18 (I 121 43)) 121 19 (I 121 44)), J, R)) rfl ?_
  refine ev_gf (c := 86) (t := 121) (X := R 86 56) rfl rfl (fun _ => rfl) rfl (hG 86 56 121 rfl rfl) ?_
  refine ev_go 2 (pc1 := 36) (lv1 := [.ref 86, .int 0, .int 20]) (st1 := [.ref 86, .int 20, .ref 121]) (h1 := (124, (uI (uI (uI (uI (uI (uI (uI (uI (uI (uI (uI (uI (uI (uI (uI (uI (uI (uI (uI (uI I 121 0 (I 121 25)) 121 1 (I 121 26)) 121 2 (I 121 27)) 121 3 (I 121 28)) 121 4 (I 121 29)) 121 5 (I 121 30)) 121 6 (I 121 31)) 121 7 (I 121 32)) 121 8 (I 121 33)) 121 9 (I 121 34)) 121 10 (I 121 35)) 121 11 (I 121 36)) 121 12 (I 121 37)) 121 13 (I 121 38)) 121 14 (I 121 39)) 121 15 (I 121 40)) 121 16 (I 121 41)) 121 17 (I 121 42)) 121 18 (I 121 43)) 121 19 (I 121 44)), J, R)) rfl ?_
  refine ev_gf (c := 86) (t := 121) (X := R 86 56) rfl rfl (fun _ => rfl) rfl (hG 86 56 121 rfl rfl) ?_
  refine ev_go 15 (pc1 := 31) (lv1 := [.ref 86, .int 0, .int 21]) (st1 := [.ref 86]) (h1 := (124, (uI (uI (uI (uI (uI (uI (uI (uI (uI (uI (uI (uI (uI (uI (uI (uI (uI (uI (uI (uI (uI I 121 0 (I 121 25)) 121 1 (I 121 26)) 121 2 (I 121 27)) 121 3 (I 121 28)) 121 4 (I 121 29)) 121 5 (I 121 30)) 121 6 (I 121 31)) 121 7 (I 121 32)) 121 8 (I 121 33)) 121 9 (I 121 34)) 121 10 (I 121 35)) 121 11 (I 121 36)) 121 12 (I 121 37)) 121 13 (I 121 38)) 121 14 (I 121 39)) 121 15 (I 121 40)) 121 16 (I 121 41)) 121 17 (I 121 42)) 121 18 (I 121 43)) 121 19 (I 121 44)) 121 20 (I 121 45)), J, R)) rfl ?_
  refine ev_gf (c := 86) (t := 121) (X := R 86 56) rfl rfl (fun _ => rfl) rfl (hG 86 56 121 rfl rfl) ?_
  refine ev_go 2 (pc1 := 36) (lv1 := [.ref 86, .int 0, .int 21]) (st1 := [.ref 86, .int 21, .ref 121]) (h1 := (124, (uI (uI (uI (uI (uI (uI (uI (uI (uI (uI (uI (uI (uI (uI (uI (uI (uI (uI (uI (uI (uI I 121 0 (I 121 25)) 121 1 (I 121 26)) 121 2 (I 121 27)) 121 3 (I 121 28)) 121 4 (I 121 29)) 121 5 (I 121 30)) 121 6 (I 121 31)) 121 7 (I 121 32)) 121 8 (I 121 33)) 121 9 (I 121 34)) 121 10 (I 121 35)) 121 11 (I 121 36)) 121 12 (I 121 37)) 121 13 (I 121 38)) 121 14 (I 121 39)) 121 15 (I 121 40)) 121 16 (I 121 41)) 121 17 (I 121 42)) 121 18 (I 121 43)) 121 19 (I 121 44)) 121 20 (I 121 45)), J, R)) rfl ?_
  refine ev_gf (c := 86) (t := 121) (X := R 86 56) rfl rfl (fun _ => rfl) rfl (hG 86 56 121 rfl rfl) ?_
  refine ev_go 15 (pc1 := 31) (lv1 := [.ref 86, .int 0, .int 22]) (st1 := [.ref 86]) (h1 := (124, (uI (uI (uI (uI (uI (uI (uI (uI (uI (uI (uI (uI (uI (uI (uI (uI (uI (uI (uI (uI (uI (uI I 121 0 (I 121 25)) 121 1 (I 121 26)) 121 2 (I 121 27)) 121 3 (I 121 28)) 121 4 (I 121 29)) 121 5 (I 121 30)) 121 6 (I 121 31)) 121 7 (I 121 32)) 121 8 (I 121 33)) 121 9 (I 121 34)) 121 10 (I 121 35)) 121 11 (I 121 36)) 121 12 (I 121 37)) 121 13 (I 121 38)) 121 14 (I 121 39)) 121 15 (I 121 40)) 121 16 (I 121 41)) 121 17 (I 121 42)) 121 18 (I 121 43)) 121 19 (I 121 44)) 121 20 (I 121 45)) 121 21 (I 121 46)), J, R)) rfl ?_
  refine ev_gf (c := 86) (t := 121) (X := R 86 56) rfl rfl (fun _ => rfl) rfl (hG 86 56 121 rfl rfl) ?_
  refine ev_go 2 (pc1 := 36) (lv1 := [.ref 86, .int 0, .int 22]) (st1 := [.ref 86, .int 22, .ref 121]) (h1 := (124, (uI (uI (uI (uI (uI (uI (uI (uI (uI (uI (uI (uI (uI (uI (uI (uI (uI (uI (uI (uI (uI (uI I 121 0 (I 121 25)) 121 1 (I 121 26)) 121 2 (I 121 27)) 121 3 (I 121 28)) 121 4 (I 121 29)) 121 5 (I 121 30)) 121 6 (I 121 31)) 121 7 (I 121 32)) 121 8 (I 121 33)) 121 9 (I 121 34)) 121 10 (I 121 35)) 121 11 (I 121 36)) 121 12 (I 121 37)) 121 13 (I 121 38)) 121 14 (I 121 39)) 121 15 (I 121 40)) 121 16 (I 121 41)) 121 17 (I 121 42)) 121 18 (I 121 43)) 121 19 (I 121 44)) 121 20 (I 121 45)) 121 21 (I 121 46)), J, R)) rfl ?_
  refine ev_gf (c := 86) (t := 121) (X := R 86 56) rfl rfl (fun _ => rfl) rfl (hG 86 56 121 rfl rfl) ?_
  refine ev_go 15 (pc1 := 31) (lv1 := [.ref 86, .int 0, .int 23]) (st1 := [.ref 86]) (h1 := (124, (uI (uI (uI (uI (uI (uI (uI (uI (uI (uI (uI (uI (uI (uI (uI (uI (uI (uI (uI (uI (uI (uI (uI I 121 0 (I 121 25)) 121 1 (I 121 26)) 121 2 (I 121 27)) 121 3 (I 121 28)) 121 4 (I 121 29)) 121 5 (I 121 30)) 121 6 (I 121 31)) 121 7 (I 121 32)) 121 8 (I 121 33)) 121 9 (I 121 34)) 121 10 (I 121 35)) 121 11 (I 121 36)) 121 12 (I 121 37)) 121 13 (I 121 38)) 121 14 (I 121 39)) 121 15 (I 121 40)) 121 16 (I 121 41)) 121 17 (I 121 42)) 121 18 (I 121 43)) 121 19 (I 121 44)) 121 20 (I 121 45)) 121 21 (I 121 46)) 121 22 (I 121 47)), J, R)) rfl ?_
  refine ev_gf (c := 86) (t := 121) (X := R 86 56) rfl rfl (fun _ => rfl) rfl (hG 86 56 121 rfl rfl) ?_
  refine ev_go 2 (pc1 := 36) (lv1 := [.ref 86, .int 0, .int 23]) (st1 := [.ref 86, .int 23, .ref 121]) (h1 := (124, (uI (uI (uI (uI (uI (uI (uI (uI (uI (uI (uI (uI (uI (uI (uI (uI (uI (uI (uI (uI (uI (uI (uI I 121 0 (I 121 25)) 121 1 (I 121 26)) 121 2 (I 121 27)) 121 3 (I 121 28)) 121 4 (I 121 29)) 121 5 (I 121 30)) 121 6 (I 121 31)) 121 7 (I 121 32)) 121 8 (I 121 33)) 121 9 (I 121 34)) 121 10 (I 121 35)) 121 11 (I 121 36)) 121 12 (I 121 37)) 121 13 (I 121 38)) 121 14 (I 121 39)) 121 15 (I 121 40)) 121 16 (I 121 41)) 121 17 (I 121 42)) 121 18 (I 121 43)) 121 19 (I 121 44)) 121 20 (I 121 45)) 121 21 (I 121 46)) 121 22 (I 121 47)), J, R)) rfl ?_
  refine ev_gf (c := 86) (t := 121) (X := R 86 56) rfl rfl (fun _ => rfl) rfl (hG 86 56 121 rfl rfl) ?_
  refine ev_go 15 (pc1 := 31) (lv1 := [.ref 86, .int 0, .int 24]) (st1 := [.ref 86]) (h1 := (124, (uI (uI (uI (uI (uI (uI (uI (uI (uI (uI (uI (uI (uI (uI (uI (uI (uI (uI (uI (uI (uI (uI (uI (uI I 121 0 (I 121 25)) 121 1 (I 121 26)) 121 2 (I 121 27)) 121 3 (I 121 28)) 121 4 (I 121 29)) 121 5 (I 121 30)) 121 6 (I 121 31)) 121 7 (I 121 32)) 121 8 (I 121 33)) 121 9 (I 121 34)) 121 10 (I 121 35)) 121 11 (I 121 36)) 121 12 (I 121 37)) 121 13 (I 121 38)) 121 14 (I 121 39)) 121 15 (I 121 40)) 121 16 (I 121 41)) 121 17 (I 121 42)) 121 18 (I 121 43)) 121 19 (I 121 44)) 121 20 (I 121 45)) 121 21 (I 121 46)) 121 22 (I 121 47)) 121 23 (I 121 48)), J, R)) rfl ?_
  refine ev_gf (c := 86) (t := 121) (X := R 86 56) rfl rfl (fun _ => rfl) rfl (hG 86 56 121 rfl rfl) ?_
  refine ev_go 2 (pc1 := 36) (lv1 := [.ref 86, .int 0, .int 24]) (st1 := [.ref 86, .int 24, .ref 121]) (h1 := (124, (uI (uI (uI (uI (uI (uI (uI (uI (uI (uI (uI (uI (uI (uI (uI (uI (uI (uI (uI (uI (uI (uI (uI (uI I 121 0 (I 121 25)) 121 1 (I 121 26)) 121 2 (I 121 27)) 121 3 (I 121 28)) 121 4 (I 121 29)) 121 5 (I 121 30)) 121 6 (I 121 31)) 121 7 (I 121 32)) 121 8 (I 121 33)) 121 9 (I 121 34)) 121 10 (I 121 35)) 121 11 (I 121 36)) 121 12 (I 121 37)) 121 13 (I 121 38)) 121 14 (I 121 39)) 121 15 (I 121 40)) 121 16 (I 121 41)) 121 17 (I 121 42)) 121 18 (I 121 43)) 121 19 (I 121 44)) 121 20 (I 121 45)) 121 21 (I 121 46)) 121 22 (I 121 47)) 121 23 (I 121 48)), J, R)) rfl ?_
  refine ev_gf (c := 86) (t := 121) (X := R 86 56) rfl rfl (fun _ => rfl) rfl (hG 86 56 121 rfl rfl) ?_
  refine ev_go 15 (pc1 := 56) (lv1 := [.ref 86, .int 0, .int 25]) (st1 := [.ref 86]) (h1 := (124, (uI (uI (uI (uI (uI (uI (uI (uI (uI (uI (uI (uI (uI (uI (uI (uI (uI (uI (uI (uI (uI (uI (uI (uI (uI I 121 0 (I 121 25)) 121 1 (I 121 26)) 121 2 (I 121 27)) 121 3 (I 121 28)) 121 4 (I 121 29)) 121 5 (I 121 30)) 121 6 (I 121 31)) 121 7 (I 121 32)) 121 8 (I 121 33)) 121 9 (I 121 34)) 121 10 (I 121 35)) 121 11 (I 121 36)) 121 12 (I 121 37)) 121 13 (I 121 38)) 121 14 (I 121 39)) 121 15 (I 121 40)) 121 16 (I 121 41)) 121 17 (I 121 42)) 121 18 (I 121 43)) 121 19 (I 121 44)) 121 20 (I 121 45)) 121 21 (I 121 46)) 121 22 (I 121 47)) 121 23 (I 121 48)) 121 24 (I 121 49)), J, R)) rfl ?_
  refine ev_gf (c := 86) (t := 122) (X := R 86 57) rfl rfl (fun _ => rfl) rfl (hG 86 57 122 rfl rfl) ?_
  refine ev_go 2 (pc1 := 61) (lv1 := [.ref 86, .int 0, .int 25]) (st1 := [.ref 86, .int 0, .ref 122]) (h1 := (124, (uI (uI (uI (uI (uI (uI (uI (uI (uI (uI (uI (uI (uI (uI (uI (uI (uI (uI (uI (uI (uI (uI (uI (uI (uI I 121 0 (I 121 25)) 121 1 (I 121 26)) 121 2 (I 121 27)) 121 3 (I 121 28)) 121 4 (I 121 29)) 121 5 (I 121 30)) 121 6 (I 121 31)) 121 7 (I 121 32)) 121 8 (I 121 33)) 121 9 (I 121 34)) 121 10 (I 121 35)) 121 11 (I 121 36)) 121 12 (I 121 37)) 121 13 (I 121 38)) 121 14 (I 121 39)) 121 15 (I 121 40)) 121 16 (I 121 41)) 121 17 (I 121 42)) 121 18 (I 121 43)) 121 19 (I 121 44)) 121 20 (I 121 45)) 121 21 (I 121 46)) 121 22 (I 121 47)) 121 23 (I 121 48)) 121 24 (I 121 49)), J, R)) rfl ?_
  refine ev_gf (c := 86) (t := 122) (X := R 86 57) rfl rfl (fun _ => rfl) rfl (hG 86 57 122 rfl rfl) ?_
  refine ev_go 6 (pc1 := 70) (lv1 := [.ref 86, .int 0, .int 25]) (st1 := [.ref 86]) (h1 := (124, (uI (uI (uI (uI (uI (uI (uI (uI (uI (uI (uI (uI (uI (uI (uI (uI (uI (uI (uI (uI (uI (uI (uI (uI (uI I 121 0 (I 121 25)) 121 1 (I 121 26)) 121 2 (I 121 27)) 121 3 (I 121 28)) 121 4 (I 121 29)) 121 5 (I 121 30)) 121 6 (I 121 31)) 121 7 (I 121 32)) 121 8 (I 121 33)) 121 9 (I 121 34)) 121 10 (I 121 35)) 121 11 (I 121 36)) 121 12 (I 121 37)) 121 13 (I 121 38)) 121 14 (I 121 39)) 121 15 (I 121 40)) 121 16 (I 121 41)) 121 17 (I 121 42)) 121 18 (I 121 43)) 121 19 (I 121 44)) 121 20 (I 121 45)) 121 21 (I 121 46)) 121 22 (I 121 47)) 121 23 (I 121 48)) 121 24 (I 121 49)), (uL J 122 0 (J 122 1)), R)) rfl ?_
  refine ev_gf (c := 86) (t := 121) (X := R 86 56) rfl rfl (fun _ => rfl) rfl (hG 86 56 121 rfl rfl) ?_
  refine ev_go 2 (pc1 := 75) (lv1 := [.ref 86, .int 0, .int 25]) (st1 := [.int (I 121 26)]) (h1 := (124, (uI (uI (uI (uI (uI (uI (uI (uI (uI (uI (uI (uI (uI (uI (uI (uI (uI (uI (uI (uI (uI (uI (uI (uI (uI I 121 0 (I 121 25)) 121 1 (I 121 26)) 121 2 (I 121 27)) 121 3 (I 121 28)) 121 4 (I 121 29)) 121 5 (I 121 30)) 121 6 (I 121 31)) 121 7 (I 121 32)) 121 8 (I 121 33)) 121 9 (I 121 34)) 121 10 (I 121 35)) 121 11 (I 121 36)) 121 12 (I 121 37)) 121 13 (I 121 38)) 121 14 (I 121 39)) 121 15 (I 121 40)) 121 16 (I 121 41)) 121 17 (I 121 42)) 121 18 (I 121 43)) 121 19 (I 121 44)) 121 20 (I 121 45)) 121 21 (I 121 46)) 121 22 (I 121 47)) 121 23 (I 121 48)) 121 24 (I 121 49)), (uL J 122 0 (J 122 1)), R)) rfl ?_
  exact ev_ret rfl rfl
set_option maxRecDepth 20000 in
theorem tX_o1 {L : Nat} {xs : Nat → Int32} {d : Nat} {I : Nat → Nat → Int32} {J : Nat → Nat → Int64} {R : Nat → Nat → Nat} (hG : aGd R) (c1 : xEv L xs d 136 0 [.ref 63, .int 1] [] (124, I, J, R) (some (.ref 76)) (124, I, J, R)) (b1 : (I 76 4).toInt = 0) : xEv L xs (d + 1) 138 0 [.ref 0, .int 1, xmk] [] (124, I, J, R) (some (.int (-4))) (124, I, J, R) := by
  refine ev_go 6 (pc1 := 13) (lv1 := [.ref 0, .int 1, xmk]) (st1 := [.ref 0]) (h1 := (124, I, J, R)) rfl ?_
  refine ev_gf (c := 0) (t := 63) (X := R 0 7) rfl rfl (fun _ => rfl) rfl (hG 0 7 63 rfl rfl) ?_
  refine ev_go 1 (pc1 := 17) (lv1 := [.ref 0, .int 1, xmk]) (st1 := [.int 1, .ref 63]) (h1 := (124, I, J, R)) rfl ?_
  refine ev_call (v1 := (some (.ref 76))) (h1 := (124, I, J, R)) rfl rfl c1 ?_
  refine ev_go 3 (pc1 := 25) (lv1 := [.ref 0, .int 1, .ref 76]) (st1 := [.int (I 76 4)]) (h1 := (124, I, J, R)) rfl ?_
  refine ev_br (b1 := false) rfl rfl (xcd_nne (x := (I 76 4)) (y := 0) (by rw [show ((0 : Int32)).toInt = 0 from by decide]; first | exact b1 | omega)) ?_
  refine ev_go 1 (pc1 := 30) (lv1 := [.ref 0, .int 1, .ref 76]) (st1 := [.int (-4)]) (h1 := (124, I, J, R)) rfl ?_
  exact ev_ret rfl rfl
set_option maxRecDepth 20000 in
theorem tX_r1 {L : Nat} {xs : Nat → Int32} {d : Nat} {I : Nat → Nat → Int32} {J : Nat → Nat → Int64} {R : Nat → Nat → Nat} (hG : aGd R) (c1 : xEv L xs d 136 0 [.ref 63, .int 1] [] (124, I, J, R) (some (.ref 76)) (124, I, J, R)) (b1 : (I 76 4).toInt ≠ 0) (c2 : xEv L xs d 137 0 [.ref 66, .ref 76] [] (124, I, J, R) none (124, (uC (uC (uC (uC (uI (uI (uI I 66 4 (I 76 4)) 66 5 (I 76 5)) 66 6 (I 76 6)) 77 67 4) 78 68 4) 79 69 4) 80 70 4), (uL J 66 7 (J 76 7)), R)) : xEv L xs (d + 1) 138 0 [.ref 0, .int 1, xmk] [] (124, I, J, R) (some (.int (I 76 5))) (124, (uC (uC (uC (uC (uI (uI (uI I 66 4 (I 76 4)) 66 5 (I 76 5)) 66 6 (I 76 6)) 77 67 4) 78 68 4) 79 69 4) 80 70 4), (uL J 66 7 (J 76 7)), R) := by
  refine ev_go 6 (pc1 := 13) (lv1 := [.ref 0, .int 1, xmk]) (st1 := [.ref 0]) (h1 := (124, I, J, R)) rfl ?_
  refine ev_gf (c := 0) (t := 63) (X := R 0 7) rfl rfl (fun _ => rfl) rfl (hG 0 7 63 rfl rfl) ?_
  refine ev_go 1 (pc1 := 17) (lv1 := [.ref 0, .int 1, xmk]) (st1 := [.int 1, .ref 63]) (h1 := (124, I, J, R)) rfl ?_
  refine ev_call (v1 := (some (.ref 76))) (h1 := (124, I, J, R)) rfl rfl c1 ?_
  refine ev_go 3 (pc1 := 25) (lv1 := [.ref 0, .int 1, .ref 76]) (st1 := [.int (I 76 4)]) (h1 := (124, I, J, R)) rfl ?_
  refine ev_br (b1 := true) rfl rfl (xcd_ne (x := (I 76 4)) (y := 0) (by rw [show ((0 : Int32)).toInt = 0 from by decide]; first | exact b1 | omega)) ?_
  refine ev_go 1 (pc1 := 32) (lv1 := [.ref 0, .int 1, .ref 76]) (st1 := [.ref 0]) (h1 := (124, I, J, R)) rfl ?_
  refine ev_gf (c := 0) (t := 63) (X := R 0 7) rfl rfl (fun _ => rfl) rfl (hG 0 7 63 rfl rfl) ?_
  refine ev_gf (c := 63) (t := 66) (X := R 63 3) rfl rfl (fun _ => rfl) rfl (hG 63 3 66 rfl rfl) ?_
  refine ev_go 1 (pc1 := 39) (lv1 := [.ref 0, .int 1, .ref 76]) (st1 := [.ref 76, .ref 66]) (h1 := (124, I, J, R)) rfl ?_
  refine ev_call (v1 := none) (h1 := (124, (uC (uC (uC (uC (uI (uI (uI I 66 4 (I 76 4)) 66 5 (I 76 5)) 66 6 (I 76 6)) 77 67 4) 78 68 4) 79 69 4) 80 70 4), (uL J 66 7 (J 76 7)), R)) rfl rfl c2 ?_
  refine ev_go 1 (pc1 := 43) (lv1 := [.ref 0, .int 1, .ref 76]) (st1 := [.ref 0]) (h1 := (124, (uC (uC (uC (uC (uI (uI (uI I 66 4 (I 76 4)) 66 5 (I 76 5)) 66 6 (I 76 6)) 77 67 4) 78 68 4) 79 69 4) 80 70 4), (uL J 66 7 (J 76 7)), R)) rfl ?_
  refine ev_gf (c := 0) (t := 63) (X := R 0 7) rfl rfl (fun _ => rfl) rfl (hG 0 7 63 rfl rfl) ?_
  refine ev_gf (c := 63) (t := 66) (X := R 63 3) rfl rfl (fun _ => rfl) rfl (hG 63 3 66 rfl rfl) ?_
  refine ev_go 1 (pc1 := 52) (lv1 := [.ref 0, .int 1, .ref 76]) (st1 := [.int (I 76 5)]) (h1 := (124, (uC (uC (uC (uC (uI (uI (uI I 66 4 (I 76 4)) 66 5 (I 76 5)) 66 6 (I 76 6)) 77 67 4) 78 68 4) 79 69 4) 80 70 4), (uL J 66 7 (J 76 7)), R)) rfl ?_
  exact ev_ret rfl rfl
set_option maxRecDepth 20000 in
theorem tM_o1 {L : Nat} {xs : Nat → Int32} {d : Nat} {I : Nat → Nat → Int32} {J : Nat → Nat → Int64} {R : Nat → Nat → Nat} (hG : aGd R) (c1 : xEv L xs d 234 0 [.int 1] [] (124, I, J, R) (some (.int 1)) (124, I, J, R)) (b1 : (I 123 1).toInt = 0) : xEv L xs (d + 1) 235 0 [.ref 86, .int 1, xmk] [] (124, I, J, R) (some (.int (-4))) (124, I, J, R) := by
  refine ev_go 1 (pc1 := 1) (lv1 := [.ref 86, .int 1, xmk]) (st1 := [.int 1]) (h1 := (124, I, J, R)) rfl ?_
  refine ev_call (v1 := (some (.int 1))) (h1 := (124, I, J, R)) rfl rfl c1 ?_
  refine ev_go 2 (pc1 := 11) (lv1 := [.ref 86, .int 1, xmk]) (st1 := [.ref 86]) (h1 := (124, I, J, R)) rfl ?_
  refine ev_gf (c := 86) (t := 123) (X := R 86 58) rfl rfl (fun _ => rfl) rfl (hG 86 58 123 rfl rfl) ?_
  refine ev_go 2 (pc1 := 16) (lv1 := [.ref 86, .int 1, xmk]) (st1 := [.int (I 123 1)]) (h1 := (124, I, J, R)) rfl ?_
  refine ev_br (b1 := false) rfl rfl (xcd_nne (x := (I 123 1)) (y := 0) (by rw [show ((0 : Int32)).toInt = 0 from by decide]; first | exact b1 | omega)) ?_
  refine ev_go 1 (pc1 := 21) (lv1 := [.ref 86, .int 1, xmk]) (st1 := [.int (-4)]) (h1 := (124, I, J, R)) rfl ?_
  exact ev_ret rfl rfl
set_option maxRecDepth 20000 in
theorem tM_r1 {L : Nat} {xs : Nat → Int32} {d : Nat} {I : Nat → Nat → Int32} {J : Nat → Nat → Int64} {R : Nat → Nat → Nat} (hG : aGd R) (c1 : xEv L xs d 234 0 [.int 1] [] (124, I, J, R) (some (.int 1)) (124, I, J, R)) (b1 : (I 123 1).toInt ≠ 0) : xEv L xs (d + 1) 235 0 [.ref 86, .int 1, xmk] [] (124, I, J, R) (some (.int (I 121 51))) (124, (uI (uI (uI (uI (uI (uI (uI (uI (uI (uI (uI (uI (uI (uI (uI (uI (uI (uI (uI (uI (uI (uI (uI (uI (uI I 121 0 (I 121 50)) 121 1 (I 121 51)) 121 2 (I 121 52)) 121 3 (I 121 53)) 121 4 (I 121 54)) 121 5 (I 121 55)) 121 6 (I 121 56)) 121 7 (I 121 57)) 121 8 (I 121 58)) 121 9 (I 121 59)) 121 10 (I 121 60)) 121 11 (I 121 61)) 121 12 (I 121 62)) 121 13 (I 121 63)) 121 14 (I 121 64)) 121 15 (I 121 65)) 121 16 (I 121 66)) 121 17 (I 121 67)) 121 18 (I 121 68)) 121 19 (I 121 69)) 121 20 (I 121 70)) 121 21 (I 121 71)) 121 22 (I 121 72)) 121 23 (I 121 73)) 121 24 (I 121 74)), (uL J 122 0 (J 122 2)), R) := by
  refine ev_go 1 (pc1 := 1) (lv1 := [.ref 86, .int 1, xmk]) (st1 := [.int 1]) (h1 := (124, I, J, R)) rfl ?_
  refine ev_call (v1 := (some (.int 1))) (h1 := (124, I, J, R)) rfl rfl c1 ?_
  refine ev_go 2 (pc1 := 11) (lv1 := [.ref 86, .int 1, xmk]) (st1 := [.ref 86]) (h1 := (124, I, J, R)) rfl ?_
  refine ev_gf (c := 86) (t := 123) (X := R 86 58) rfl rfl (fun _ => rfl) rfl (hG 86 58 123 rfl rfl) ?_
  refine ev_go 2 (pc1 := 16) (lv1 := [.ref 86, .int 1, xmk]) (st1 := [.int (I 123 1)]) (h1 := (124, I, J, R)) rfl ?_
  refine ev_br (b1 := true) rfl rfl (xcd_ne (x := (I 123 1)) (y := 0) (by rw [show ((0 : Int32)).toInt = 0 from by decide]; first | exact b1 | omega)) ?_
  refine ev_go 6 (pc1 := 31) (lv1 := [.ref 86, .int 1, .int 0]) (st1 := [.ref 86]) (h1 := (124, I, J, R)) rfl ?_
  refine ev_gf (c := 86) (t := 121) (X := R 86 56) rfl rfl (fun _ => rfl) rfl (hG 86 56 121 rfl rfl) ?_
  refine ev_go 2 (pc1 := 36) (lv1 := [.ref 86, .int 1, .int 0]) (st1 := [.ref 86, .int 0, .ref 121]) (h1 := (124, I, J, R)) rfl ?_
  refine ev_gf (c := 86) (t := 121) (X := R 86 56) rfl rfl (fun _ => rfl) rfl (hG 86 56 121 rfl rfl) ?_
  refine ev_go 15 (pc1 := 31) (lv1 := [.ref 86, .int 1, .int 1]) (st1 := [.ref 86]) (h1 := (124, (uI I 121 0 (I 121 50)), J, R)) rfl ?_
  refine ev_gf (c := 86) (t := 121) (X := R 86 56) rfl rfl (fun _ => rfl) rfl (hG 86 56 121 rfl rfl) ?_
  refine ev_go 2 (pc1 := 36) (lv1 := [.ref 86, .int 1, .int 1]) (st1 := [.ref 86, .int 1, .ref 121]) (h1 := (124, (uI I 121 0 (I 121 50)), J, R)) rfl ?_
  refine ev_gf (c := 86) (t := 121) (X := R 86 56) rfl rfl (fun _ => rfl) rfl (hG 86 56 121 rfl rfl) ?_
  refine ev_go 15 (pc1 := 31) (lv1 := [.ref 86, .int 1, .int 2]) (st1 := [.ref 86]) (h1 := (124, (uI (uI I 121 0 (I 121 50)) 121 1 (I 121 51)), J, R)) rfl ?_
  refine ev_gf (c := 86) (t := 121) (X := R 86 56) rfl rfl (fun _ => rfl) rfl (hG 86 56 121 rfl rfl) ?_
  refine ev_go 2 (pc1 := 36) (lv1 := [.ref 86, .int 1, .int 2]) (st1 := [.ref 86, .int 2, .ref 121]) (h1 := (124, (uI (uI I 121 0 (I 121 50)) 121 1 (I 121 51)), J, R)) rfl ?_
  refine ev_gf (c := 86) (t := 121) (X := R 86 56) rfl rfl (fun _ => rfl) rfl (hG 86 56 121 rfl rfl) ?_
  refine ev_go 15 (pc1 := 31) (lv1 := [.ref 86, .int 1, .int 3]) (st1 := [.ref 86]) (h1 := (124, (uI (uI (uI I 121 0 (I 121 50)) 121 1 (I 121 51)) 121 2 (I 121 52)), J, R)) rfl ?_
  refine ev_gf (c := 86) (t := 121) (X := R 86 56) rfl rfl (fun _ => rfl) rfl (hG 86 56 121 rfl rfl) ?_
  refine ev_go 2 (pc1 := 36) (lv1 := [.ref 86, .int 1, .int 3]) (st1 := [.ref 86, .int 3, .ref 121]) (h1 := (124, (uI (uI (uI I 121 0 (I 121 50)) 121 1 (I 121 51)) 121 2 (I 121 52)), J, R)) rfl ?_
  refine ev_gf (c := 86) (t := 121) (X := R 86 56) rfl rfl (fun _ => rfl) rfl (hG 86 56 121 rfl rfl) ?_
  refine ev_go 15 (pc1 := 31) (lv1 := [.ref 86, .int 1, .int 4]) (st1 := [.ref 86]) (h1 := (124, (uI (uI (uI (uI I 121 0 (I 121 50)) 121 1 (I 121 51)) 121 2 (I 121 52)) 121 3 (I 121 53)), J, R)) rfl ?_
  refine ev_gf (c := 86) (t := 121) (X := R 86 56) rfl rfl (fun _ => rfl) rfl (hG 86 56 121 rfl rfl) ?_
  refine ev_go 2 (pc1 := 36) (lv1 := [.ref 86, .int 1, .int 4]) (st1 := [.ref 86, .int 4, .ref 121]) (h1 := (124, (uI (uI (uI (uI I 121 0 (I 121 50)) 121 1 (I 121 51)) 121 2 (I 121 52)) 121 3 (I 121 53)), J, R)) rfl ?_
  refine ev_gf (c := 86) (t := 121) (X := R 86 56) rfl rfl (fun _ => rfl) rfl (hG 86 56 121 rfl rfl) ?_
  refine ev_go 15 (pc1 := 31) (lv1 := [.ref 86, .int 1, .int 5]) (st1 := [.ref 86]) (h1 := (124, (uI (uI (uI (uI (uI I 121 0 (I 121 50)) 121 1 (I 121 51)) 121 2 (I 121 52)) 121 3 (I 121 53)) 121 4 (I 121 54)), J, R)) rfl ?_
  refine ev_gf (c := 86) (t := 121) (X := R 86 56) rfl rfl (fun _ => rfl) rfl (hG 86 56 121 rfl rfl) ?_
  refine ev_go 2 (pc1 := 36) (lv1 := [.ref 86, .int 1, .int 5]) (st1 := [.ref 86, .int 5, .ref 121]) (h1 := (124, (uI (uI (uI (uI (uI I 121 0 (I 121 50)) 121 1 (I 121 51)) 121 2 (I 121 52)) 121 3 (I 121 53)) 121 4 (I 121 54)), J, R)) rfl ?_
  refine ev_gf (c := 86) (t := 121) (X := R 86 56) rfl rfl (fun _ => rfl) rfl (hG 86 56 121 rfl rfl) ?_
  refine ev_go 15 (pc1 := 31) (lv1 := [.ref 86, .int 1, .int 6]) (st1 := [.ref 86]) (h1 := (124, (uI (uI (uI (uI (uI (uI I 121 0 (I 121 50)) 121 1 (I 121 51)) 121 2 (I 121 52)) 121 3 (I 121 53)) 121 4 (I 121 54)) 121 5 (I 121 55)), J, R)) rfl ?_
  refine ev_gf (c := 86) (t := 121) (X := R 86 56) rfl rfl (fun _ => rfl) rfl (hG 86 56 121 rfl rfl) ?_
  refine ev_go 2 (pc1 := 36) (lv1 := [.ref 86, .int 1, .int 6]) (st1 := [.ref 86, .int 6, .ref 121]) (h1 := (124, (uI (uI (uI (uI (uI (uI I 121 0 (I 121 50)) 121 1 (I 121 51)) 121 2 (I 121 52)) 121 3 (I 121 53)) 121 4 (I 121 54)) 121 5 (I 121 55)), J, R)) rfl ?_
  refine ev_gf (c := 86) (t := 121) (X := R 86 56) rfl rfl (fun _ => rfl) rfl (hG 86 56 121 rfl rfl) ?_
  refine ev_go 15 (pc1 := 31) (lv1 := [.ref 86, .int 1, .int 7]) (st1 := [.ref 86]) (h1 := (124, (uI (uI (uI (uI (uI (uI (uI I 121 0 (I 121 50)) 121 1 (I 121 51)) 121 2 (I 121 52)) 121 3 (I 121 53)) 121 4 (I 121 54)) 121 5 (I 121 55)) 121 6 (I 121 56)), J, R)) rfl ?_
  refine ev_gf (c := 86) (t := 121) (X := R 86 56) rfl rfl (fun _ => rfl) rfl (hG 86 56 121 rfl rfl) ?_
  refine ev_go 2 (pc1 := 36) (lv1 := [.ref 86, .int 1, .int 7]) (st1 := [.ref 86, .int 7, .ref 121]) (h1 := (124, (uI (uI (uI (uI (uI (uI (uI I 121 0 (I 121 50)) 121 1 (I 121 51)) 121 2 (I 121 52)) 121 3 (I 121 53)) 121 4 (I 121 54)) 121 5 (I 121 55)) 121 6 (I 121 56)), J, R)) rfl ?_
  refine ev_gf (c := 86) (t := 121) (X := R 86 56) rfl rfl (fun _ => rfl) rfl (hG 86 56 121 rfl rfl) ?_
  refine ev_go 15 (pc1 := 31) (lv1 := [.ref 86, .int 1, .int 8]) (st1 := [.ref 86]) (h1 := (124, (uI (uI (uI (uI (uI (uI (uI (uI I 121 0 (I 121 50)) 121 1 (I 121 51)) 121 2 (I 121 52)) 121 3 (I 121 53)) 121 4 (I 121 54)) 121 5 (I 121 55)) 121 6 (I 121 56)) 121 7 (I 121 57)), J, R)) rfl ?_
  refine ev_gf (c := 86) (t := 121) (X := R 86 56) rfl rfl (fun _ => rfl) rfl (hG 86 56 121 rfl rfl) ?_
  refine ev_go 2 (pc1 := 36) (lv1 := [.ref 86, .int 1, .int 8]) (st1 := [.ref 86, .int 8, .ref 121]) (h1 := (124, (uI (uI (uI (uI (uI (uI (uI (uI I 121 0 (I 121 50)) 121 1 (I 121 51)) 121 2 (I 121 52)) 121 3 (I 121 53)) 121 4 (I 121 54)) 121 5 (I 121 55)) 121 6 (I 121 56)) 121 7 (I 121 57)), J, R)) rfl ?_
  refine ev_gf (c := 86) (t := 121) (X := R 86 56) rfl rfl (fun _ => rfl) rfl (hG 86 56 121 rfl rfl) ?_
  refine ev_go 15 (pc1 := 31) (lv1 := [.ref 86, .int 1, .int 9]) (st1 := [.ref 86]) (h1 := (124, (uI (uI (uI (uI (uI (uI (uI (uI (uI I 121 0 (I 121 50)) 121 1 (I 121 51)) 121 2 (I 121 52)) 121 3 (I 121 53)) 121 4 (I 121 54)) 121 5 (I 121 55)) 121 6 (I 121 56)) 121 7 (I 121 57)) 121 8 (I 121 58)), J, R)) rfl ?_
  refine ev_gf (c := 86) (t := 121) (X := R 86 56) rfl rfl (fun _ => rfl) rfl (hG 86 56 121 rfl rfl) ?_
  refine ev_go 2 (pc1 := 36) (lv1 := [.ref 86, .int 1, .int 9]) (st1 := [.ref 86, .int 9, .ref 121]) (h1 := (124, (uI (uI (uI (uI (uI (uI (uI (uI (uI I 121 0 (I 121 50)) 121 1 (I 121 51)) 121 2 (I 121 52)) 121 3 (I 121 53)) 121 4 (I 121 54)) 121 5 (I 121 55)) 121 6 (I 121 56)) 121 7 (I 121 57)) 121 8 (I 121 58)), J, R)) rfl ?_
  refine ev_gf (c := 86) (t := 121) (X := R 86 56) rfl rfl (fun _ => rfl) rfl (hG 86 56 121 rfl rfl) ?_
  refine ev_go 15 (pc1 := 31) (lv1 := [.ref 86, .int 1, .int 10]) (st1 := [.ref 86]) (h1 := (124, (uI (uI (uI (uI (uI (uI (uI (uI (uI (uI I 121 0 (I 121 50)) 121 1 (I 121 51)) 121 2 (I 121 52)) 121 3 (I 121 53)) 121 4 (I 121 54)) 121 5 (I 121 55)) 121 6 (I 121 56)) 121 7 (I 121 57)) 121 8 (I 121 58)) 121 9 (I 121 59)), J, R)) rfl ?_
  refine ev_gf (c := 86) (t := 121) (X := R 86 56) rfl rfl (fun _ => rfl) rfl (hG 86 56 121 rfl rfl) ?_
  refine ev_go 2 (pc1 := 36) (lv1 := [.ref 86, .int 1, .int 10]) (st1 := [.ref 86, .int 10, .ref 121]) (h1 := (124, (uI (uI (uI (uI (uI (uI (uI (uI (uI (uI I 121 0 (I 121 50)) 121 1 (I 121 51)) 121 2 (I 121 52)) 121 3 (I 121 53)) 121 4 (I 121 54)) 121 5 (I 121 55)) 121 6 (I 121 56)) 121 7 (I 121 57)) 121 8 (I 121 58)) 121 9 (I 121 59)), J, R)) rfl ?_
  refine ev_gf (c := 86) (t := 121) (X := R 86 56) rfl rfl (fun _ => rfl) rfl (hG 86 56 121 rfl rfl) ?_
  refine ev_go 15 (pc1 := 31) (lv1 := [.ref 86, .int 1, .int 11]) (st1 := [.ref 86]) (h1 := (124, (uI (uI (uI (uI (uI (uI (uI (uI (uI (uI (uI I 121 0 (I 121 50)) 121 1 (I 121 51)) 121 2 (I 121 52)) 121 3 (I 121 53)) 121 4 (I 121 54)) 121 5 (I 121 55)) 121 6 (I 121 56)) 121 7 (I 121 57)) 121 8 (I 121 58)) 121 9 (I 121 59)) 121 10 (I 121 60)), J, R)) rfl ?_
  refine ev_gf (c := 86) (t := 121) (X := R 86 56) rfl rfl (fun _ => rfl) rfl (hG 86 56 121 rfl rfl) ?_
  refine ev_go 2 (pc1 := 36) (lv1 := [.ref 86, .int 1, .int 11]) (st1 := [.ref 86, .int 11, .ref 121]) (h1 := (124, (uI (uI (uI (uI (uI (uI (uI (uI (uI (uI (uI I 121 0 (I 121 50)) 121 1 (I 121 51)) 121 2 (I 121 52)) 121 3 (I 121 53)) 121 4 (I 121 54)) 121 5 (I 121 55)) 121 6 (I 121 56)) 121 7 (I 121 57)) 121 8 (I 121 58)) 121 9 (I 121 59)) 121 10 (I 121 60)), J, R)) rfl ?_
  refine ev_gf (c := 86) (t := 121) (X := R 86 56) rfl rfl (fun _ => rfl) rfl (hG 86 56 121 rfl rfl) ?_
  refine ev_go 15 (pc1 := 31) (lv1 := [.ref 86, .int 1, .int 12]) (st1 := [.ref 86]) (h1 := (124, (uI (uI (uI (uI (uI (uI (uI (uI (uI (uI (uI (uI I 121 0 (I 121 50)) 121 1 (I 121 51)) 121 2 (I 121 52)) 121 3 (I 121 53)) 121 4 (I 121 54)) 121 5 (I 121 55)) 121 6 (I 121 56)) 121 7 (I 121 57)) 121 8 (I 121 58)) 121 9 (I 121 59)) 121 10 (I 121 60)) 121 11 (I 121 61)), J, R)) rfl ?_
  refine ev_gf (c := 86) (t := 121) (X := R 86 56) rfl rfl (fun _ => rfl) rfl (hG 86 56 121 rfl rfl) ?_
  refine ev_go 2 (pc1 := 36) (lv1 := [.ref 86, .int 1, .int 12]) (st1 := [.ref 86, .int 12, .ref 121]) (h1 := (124, (uI (uI (uI (uI (uI (uI (uI (uI (uI (uI (uI (uI I 121 0 (I 121 50)) 121 1 (I 121 51)) 121 2 (I 121 52)) 121 3 (I 121 53)) 121 4 (I 121 54)) 121 5 (I 121 55)) 121 6 (I 121 56)) 121 7 (I 121 57)) 121 8 (I 121 58)) 121 9 (I 121 59)) 121 10 (I 121 60)) 121 11 (I 121 61)), J, R)) rfl ?_
  refine ev_gf (c := 86) (t := 121) (X := R 86 56) rfl rfl (fun _ => rfl) rfl (hG 86 56 121 rfl rfl) ?_
  refine ev_go 15 (pc1 := 31) (lv1 := [.ref 86, .int 1, .int 13]) (st1 := [.ref 86]) (h1 := (124, (uI (uI (uI (uI (uI (uI (uI (uI (uI (uI (uI (uI (uI I 121 0 (I 121 50)) 121 1 (I 121 51)) 121 2 (I 121 52)) 121 3 (I 121 53)) 121 4 (I 121 54)) 121 5 (I 121 55)) 121 6 (I 121 56)) 121 7 (I 121 57)) 121 8 (I 121 58)) 121 9 (I 121 59)) 121 10 (I 121 60)) 121 11 (I 121 61)) 121 12 (I 121 62)), J, R)) rfl ?_
  refine ev_gf (c := 86) (t := 121) (X := R 86 56) rfl rfl (fun _ => rfl) rfl (hG 86 56 121 rfl rfl) ?_
  refine ev_go 2 (pc1 := 36) (lv1 := [.ref 86, .int 1, .int 13]) (st1 := [.ref 86, .int 13, .ref 121]) (h1 := (124, (uI (uI (uI (uI (uI (uI (uI (uI (uI (uI (uI (uI (uI I 121 0 (I 121 50)) 121 1 (I 121 51)) 121 2 (I 121 52)) 121 3 (I 121 53)) 121 4 (I 121 54)) 121 5 (I 121 55)) 121 6 (I 121 56)) 121 7 (I 121 57)) 121 8 (I 121 58)) 121 9 (I 121 59)) 121 10 (I 121 60)) 121 11 (I 121 61)) 121 12 (I 121 62)), J, R)) rfl ?_
  refine ev_gf (c := 86) (t := 121) (X := R 86 56) rfl rfl (fun _ => rfl) rfl (hG 86 56 121 rfl rfl) ?_
  refine ev_go 15 (pc1 := 31) (lv1 := [.ref 86, .int 1, .int 14]) (st1 := [.ref 86]) (h1 := (124, (uI (uI (uI (uI (uI (uI (uI (uI (uI (uI (uI (uI (uI (uI I 121 0 (I 121 50)) 121 1 (I 121 51)) 121 2 (I 121 52)) 121 3 (I 121 53)) 121 4 (I 121 54)) 121 5 (I 121 55)) 121 6 (I 121 56)) 121 7 (I 121 57)) 121 8 (I 121 58)) 121 9 (I 121 59)) 121 10 (I 121 60)) 121 11 (I 121 61)) 121 12 (I 121 62)) 121 13 (I 121 63)), J, R)) rfl ?_
  refine ev_gf (c := 86) (t := 121) (X := R 86 56) rfl rfl (fun _ => rfl) rfl (hG 86 56 121 rfl rfl) ?_
  refine ev_go 2 (pc1 := 36) (lv1 := [.ref 86, .int 1, .int 14]) (st1 := [.ref 86, .int 14, .ref 121]) (h1 := (124, (uI (uI (uI (uI (uI (uI (uI (uI (uI (uI (uI (uI (uI (uI I 121 0 (I 121 50)) 121 1 (I 121 51)) 121 2 (I 121 52)) 121 3 (I 121 53)) 121 4 (I 121 54)) 121 5 (I 121 55)) 121 6 (I 121 56)) 121 7 (I 121 57)) 121 8 (I 121 58)) 121 9 (I 121 59)) 121 10 (I 121 60)) 121 11 (I 121 61)) 121 12 (I 121 62)) 121 13 (I 121 63)), J, R)) rfl ?_
  refine ev_gf (c := 86) (t := 121) (X := R 86 56) rfl rfl (fun _ => rfl) rfl (hG 86 56 121 rfl rfl) ?_
  refine ev_go 15 (pc1 := 31) (lv1 := [.ref 86, .int 1, .int 15]) (st1 := [.ref 86]) (h1 := (124, (uI (uI (uI (uI (uI (uI (uI (uI (uI (uI (uI (uI (uI (uI (uI I 121 0 (I 121 50)) 121 1 (I 121 51)) 121 2 (I 121 52)) 121 3 (I 121 53)) 121 4 (I 121 54)) 121 5 (I 121 55)) 121 6 (I 121 56)) 121 7 (I 121 57)) 121 8 (I 121 58)) 121 9 (I 121 59)) 121 10 (I 121 60)) 121 11 (I 121 61)) 121 12 (I 121 62)) 121 13 (I 121 63)) 121 14 (I 121 64)), J, R)) rfl ?_
  refine ev_gf (c := 86) (t := 121) (X := R 86 56) rfl rfl (fun _ => rfl) rfl (hG 86 56 121 rfl rfl) ?_
  refine ev_go 2 (pc1 := 36) (lv1 := [.ref 86, .int 1, .int 15]) (st1 := [.ref 86, .int 15, .ref 121]) (h1 := (124, (uI (uI (uI (uI (uI (uI (uI (uI (uI (uI (uI (uI (uI (uI (uI I 121 0 (I 121 50)) 121 1 (I 121 51)) 121 2 (I 121 52)) 121 3 (I 121 53)) 121 4 (I 121 54)) 121 5 (I 121 55)) 121 6 (I 121 56)) 121 7 (I 121 57)) 121 8 (I 121 58)) 121 9 (I 121 59)) 121 10 (I 121 60)) 121 11 (I 121 61)) 121 12 (I 121 62)) 121 13 (I 121 63)) 121 14 (I 121 64)), J, R)) rfl ?_
  refine ev_gf (c := 86) (t := 121) (X := R 86 56) rfl rfl (fun _ => rfl) rfl (hG 86 56 121 rfl rfl) ?_
  refine ev_go 15 (pc1 := 31) (lv1 := [.ref 86, .int 1, .int 16]) (st1 := [.ref 86]) (h1 := (124, (uI (uI (uI (uI (uI (uI (uI (uI (uI (uI (uI (uI (uI (uI (uI (uI I 121 0 (I 121 50)) 121 1 (I 121 51)) 121 2 (I 121 52)) 121 3 (I 121 53)) 121 4 (I 121 54)) 121 5 (I 121 55)) 121 6 (I 121 56)) 121 7 (I 121 57)) 121 8 (I 121 58)) 121 9 (I 121 59)) 121 10 (I 121 60)) 121 11 (I 121 61)) 121 12 (I 121 62)) 121 13 (I 121 63)) 121 14 (I 121 64)) 121 15 (I 121 65)), J, R)) rfl ?_
  refine ev_gf (c := 86) (t := 121) (X := R 86 56) rfl rfl (fun _ => rfl) rfl (hG 86 56 121 rfl rfl) ?_
  refine ev_go 2 (pc1 := 36) (lv1 := [.ref 86, .int 1, .int 16]) (st1 := [.ref 86, .int 16, .ref 121]) (h1 := (124, (uI (uI (uI (uI (uI (uI (uI (uI (uI (uI (uI (uI (uI (uI (uI (uI I 121 0 (I 121 50)) 121 1 (I 121 51)) 121 2 (I 121 52)) 121 3 (I 121 53)) 121 4 (I 121 54)) 121 5 (I 121 55)) 121 6 (I 121 56)) 121 7 (I 121 57)) 121 8 (I 121 58)) 121 9 (I 121 59)) 121 10 (I 121 60)) 121 11 (I 121 61)) 121 12 (I 121 62)) 121 13 (I 121 63)) 121 14 (I 121 64)) 121 15 (I 121 65)), J, R)) rfl ?_
  refine ev_gf (c := 86) (t := 121) (X := R 86 56) rfl rfl (fun _ => rfl) rfl (hG 86 56 121 rfl rfl) ?_
  refine ev_go 15 (pc1 := 31) (lv1 := [.ref 86, .int 1, .int 17]) (st1 := [.ref 86]) (h1 := (124, (uI (uI (uI (uI (uI (uI (uI (uI (uI (uI (uI (uI (uI (uI (uI (uI (uI I 121 0 (I 121 50)) 121 1 (I 121 51)) 121 2 (I 121 52)) 121 3 (I 121 53)) 121 4 (I 121 54)) 121 5 (I 121 55)) 121 6 (I 121 56)) 121 7 (I 121 57)) 121 8 (I 121 58)) 121 9 (I 121 59)) 121 10 (I 121 60)) 121 11 (I 121 61)) 121 12 (I 121 62)) 121 13 (I 121 63)) 121 14 (I 121 64)) 121 15 (I 121 65)) 121 16 (I 121 66)), J, R)) rfl ?_
  refine ev_gf (c := 86) (t := 121) (X := R 86 56) rfl rfl (fun _ => rfl) rfl (hG 86 56 121 rfl rfl) ?_
  refine ev_go 2 (pc1 := 36) (lv1 := [.ref 86, .int 1, .int 17]) (st1 := [.ref 86, .int 17, .ref 121]) (h1 := (124, (uI (uI (uI (uI (uI (uI (uI (uI (uI (uI (uI (uI (uI (uI (uI (uI (uI I 121 0 (I 121 50)) 121 1 (I 121 51)) 121 2 (I 121 52)) 121 3 (I 121 53)) 121 4 (I 121 54)) 121 5 (I 121 55)) 121 6 (I 121 56)) 121 7 (I 121 57)) 121 8 (I 121 58)) 121 9 (I 121 59)) 121 10 (I 121 60)) 121 11 (I 121 61)) 121 12 (I 121 62)) 121 13 (I 121 63)) 121 14 (I 121 64)) 121 15 (I 121 65)) 121 16 (I 121 66)), J, R)) rfl ?_
  refine ev_gf (c := 86) (t := 121) (X := R 86 56) rfl rfl (fun _ => rfl) rfl (hG 86 56 121 rfl rfl) ?_
  refine ev_go 15 (pc1 := 31) (lv1 := [.ref 86, .int 1, .int 18]) (st1 := [.ref 86]) (h1 := (124, (uI (uI (uI (uI (uI (uI (uI (uI (uI (uI (uI (uI (uI (uI (uI (uI (uI (uI I 121 0 (I 121 50)) 121 1 (I 121 51)) 121 2 (I 121 52)) 121 3 (I 121 53)) 121 4 (I 121 54)) 121 5 (I 121 55)) 121 6 (I 121 56)) 121 7 (I 121 57)) 121 8 (I 121 58)) 121 9 (I 121 59)) 121 10 (I 121 60)) 121 11 (I 121 61)) 121 12 (I 121 62)) 121 13 (I 121 63)) 121 14 (I 121 64)) 121 15 (I 121 65)) 121 16 (I 121 66)) 121 17 (I 121 67)), J, R)) rfl ?_
  refine ev_gf (c := 86) (t := 121) (X := R 86 56) rfl rfl (fun _ => rfl) rfl (hG 86 56 121 rfl rfl) ?_
  refine ev_go 2 (pc1 := 36) (lv1 := [.ref 86, .int 1, .int 18]) (st1 := [.ref 86, .int 18, .ref 121]) (h1 := (124, (uI (uI (uI (uI (uI (uI (uI (uI (uI (uI (uI (uI (uI (uI (uI (uI (uI (uI I 121 0 (I 121 50)) 121 1 (I 121 51)) 121 2 (I 121 52)) 121 3 (I 121 53)) 121 4 (I 121 54)) 121 5 (I 121 55)) 121 6 (I 121 56)) 121 7 (I 121 57)) 121 8 (I 121 58)) 121 9 (I 121 59)) 121 10 (I 121 60)) 121 11 (I 121 61)) 121 12 (I 121 62)) 121 13 (I 121 63)) 121 14 (I 121 64)) 121 15 (I 121 65)) 121 16 (I 121 66)) 121 17 (I 121 67)), J, R)) rfl ?_
  refine ev_gf (c := 86) (t := 121) (X := R 86 56) rfl rfl (fun _ => rfl) rfl (hG 86 56 121 rfl rfl) ?_
  refine ev_go 15 (pc1 := 31) (lv1 := [.ref 86, .int 1, .int 19]) (st1 := [.ref 86]) (h1 := (124, (uI (uI (uI (uI (uI (uI (uI (uI (uI (uI (uI (uI (uI (uI (uI (uI (uI (uI (uI I 121 0 (I 121 50)) 121 1 (I 121 51)) 121 2 (I 121 52)) 121 3 (I 121 53)) 121 4 (I 121 54)) 121 5 (I 121 55)) 121 6 (I 121 56)) 121 7 (I 121 57)) 121 8 (I 121 58)) 121 9 (I 121 59)) 121 10 (I 121 60)) 121 11 (I 121 61)) 121 12 (I 121 62)) 121 13 (I 121 63)) 121 14 (I 121 64)) 121 15 (I 121 65)) 121 16 (I 121 66)) 121 17 (I 121 67)) 121 18 (I 121 68)), J, R)) rfl ?_
  refine ev_gf (c := 86) (t := 121) (X := R 86 56) rfl rfl (fun _ => rfl) rfl (hG 86 56 121 rfl rfl) ?_
  refine ev_go 2 (pc1 := 36) (lv1 := [.ref 86, .int 1, .int 19]) (st1 := [.ref 86, .int 19, .ref 121]) (h1 := (124, (uI (uI (uI (uI (uI (uI (uI (uI (uI (uI (uI (uI (uI (uI (uI (uI (uI (uI (uI I 121 0 (I 121 50)) 121 1 (I 121 51)) 121 2 (I 121 52)) 121 3 (I 121 53)) 121 4 (I 121 54)) 121 5 (I 121 55)) 121 6 (I 121 56)) 121 7 (I 121 57)) 121 8 (I 121 58)) 121 9 (I 121 59)) 121 10 (I 121 60)) 121 11 (I 121 61)) 121 12 (I 121 62)) 121 13 (I 121 63)) 121 14 (I 121 64)) 121 15 (I 121 65)) 121 16 (I 121 66)) 121 17 (I 121 67)) 121 18 (I 121 68)), J, R)) rfl ?_
  refine ev_gf (c := 86) (t := 121) (X := R 86 56) rfl rfl (fun _ => rfl) rfl (hG 86 56 121 rfl rfl) ?_
  refine ev_go 15 (pc1 := 31) (lv1 := [.ref 86, .int 1, .int 20]) (st1 := [.ref 86]) (h1 := (124, (uI (uI (uI (uI (uI (uI (uI (uI (uI (uI (uI (uI (uI (uI (uI (uI (uI (uI (uI (uI I 121 0 (I 121 50)) 121 1 (I 121 51)) 121 2 (I 121 52)) 121 3 (I 121 53)) 121 4 (I 121 54)) 121 5 (I 121 55)) 121 6 (I 121 56)) 121 7 (I 121 57)) 121 8 (I 121 58)) 121 9 (I 121 59)) 121 10 (I 121 60)) 121 11 (I 121 61)) 121 12 (I 121 62)) 121 13 (I 121 63)) 121 14 (I 121 64)) 121 15 (I 121 65)) 121 16 (I 121 66)) 121 17 (I 121 67)) 121 18 (I 121 68)) 121 19 (I 121 69)), J, R)) rfl ?_
  refine ev_gf (c := 86) (t := 121) (X := R 86 56) rfl rfl (fun _ => rfl) rfl (hG 86 56 121 rfl rfl) ?_
  refine ev_go 2 (pc1 := 36) (lv1 := [.ref 86, .int 1, .int 20]) (st1 := [.ref 86, .int 20, .ref 121]) (h1 := (124, (uI (uI (uI (uI (uI (uI (uI (uI (uI (uI (uI (uI (uI (uI (uI (uI (uI (uI (uI (uI I 121 0 (I 121 50)) 121 1 (I 121 51)) 121 2 (I 121 52)) 121 3 (I 121 53)) 121 4 (I 121 54)) 121 5 (I 121 55)) 121 6 (I 121 56)) 121 7 (I 121 57)) 121 8 (I 121 58)) 121 9 (I 121 59)) 121 10 (I 121 60)) 121 11 (I 121 61)) 121 12 (I 121 62)) 121 13 (I 121 63)) 121 14 (I 121 64)) 121 15 (I 121 65)) 121 16 (I 121 66)) 121 17 (I 121 67)) 121 18 (I 121 68)) 121 19 (I 121 69)), J, R)) rfl ?_
  refine ev_gf (c := 86) (t := 121) (X := R 86 56) rfl rfl (fun _ => rfl) rfl (hG 86 56 121 rfl rfl) ?_
  refine ev_go 15 (pc1 := 31) (lv1 := [.ref 86, .int 1, .int 21]) (st1 := [.ref 86]) (h1 := (124, (uI (uI (uI (uI (uI (uI (uI (uI (uI (uI (uI (uI (uI (uI (uI (uI (uI (uI (uI (uI (uI I 121 0 (I 121 50)) 121 1 (I 121 51)) 121 2 (I 121 52)) 121 3 (I 121 53)) 121 4 (I 121 54)) 121 5 (I 121 55)) 121 6 (I 121 56)) 121 7 (I 121 57)) 121 8 (I 121 58)) 121 9 (I 121 59)) 121 10 (I 121 60)) 121 11 (I 121 61)) 121 12 (I 121 62)) 121 13 (I 121 63)) 121 14 (I 121 64)) 121 15 (I 121 65)) 121 16 (I 121 66)) 121 17 (I 121 67)) 121 18 (I 121 68)) 121 19 (I 121 69)) 121 20 (I 121 70)), J, R)) rfl ?_
  refine ev_gf (c := 86) (t := 121) (X := R 86 56) rfl rfl (fun _ => rfl) rfl (hG 86 56 121 rfl rfl) ?_
  refine ev_go 2 (pc1 := 36) (lv1 := [.ref 86, .int 1, .int 21]) (st1 := [.ref 86, .int 21, .ref 121]) (h1 := (124, (uI (uI (uI (uI (uI (uI (uI (uI (uI (uI (uI (uI (uI (uI (uI (uI (uI (uI (uI (uI (uI I 121 0 (I 121 50)) 121 1 (I 121 51)) 121 2 (I 121 52)) 121 3 (I 121 53)) 121 4 (I 121 54)) 121 5 (I 121 55)) 121 6 (I 121 56)) 121 7 (I 121 57)) 121 8 (I 121 58)) 121 9 (I 121 59)) 121 10 (I 121 60)) 121 11 (I 121 61)) 121 12 (I 121 62)) 121 13 (I 121 63)) 121 14 (I 121 64)) 121 15 (I 121 65)) 121 16 (I 121 66)) 121 17 (I 121 67)) 121 18 (I 121 68)) 121 19 (I 121 69)) 121 20 (I 121 70)), J, R)) rfl ?_
  refine ev_gf (c := 86) (t := 121) (X := R 86 56) rfl rfl (fun _ => rfl) rfl (hG 86 56 121 rfl rfl) ?_
  refine ev_go 15 (pc1 := 31) (lv1 := [.ref 86, .int 1, .int 22]) (st1 := [.ref 86]) (h1 := (124, (uI (uI (uI (uI (uI (uI (uI (uI (uI (uI (uI (uI (uI (uI (uI (uI (uI (uI (uI (uI (uI (uI I 121 0 (I 121 50)) 121 1 (I 121 51)) 121 2 (I 121 52)) 121 3 (I 121 53)) 121 4 (I 121 54)) 121 5 (I 121 55)) 121 6 (I 121 56)) 121 7 (I 121 57)) 121 8 (I 121 58)) 121 9 (I 121 59)) 121 10 (I 121 60)) 121 11 (I 121 61)) 121 12 (I 121 62)) 121 13 (I 121 63)) 121 14 (I 121 64)) 121 15 (I 121 65)) 121 16 (I 121 66)) 121 17 (I 121 67)) 121 18 (I 121 68)) 121 19 (I 121 69)) 121 20 (I 121 70)) 121 21 (I 121 71)), J, R)) rfl ?_
  refine ev_gf (c := 86) (t := 121) (X := R 86 56) rfl rfl (fun _ => rfl) rfl (hG 86 56 121 rfl rfl) ?_
  refine ev_go 2 (pc1 := 36) (lv1 := [.ref 86, .int 1, .int 22]) (st1 := [.ref 86, .int 22, .ref 121]) (h1 := (124, (uI (uI (uI (uI (uI (uI (uI (uI (uI (uI (uI (uI (uI (uI (uI (uI (uI (uI (uI (uI (uI (uI I 121 0 (I 121 50)) 121 1 (I 121 51)) 121 2 (I 121 52)) 121 3 (I 121 53)) 121 4 (I 121 54)) 121 5 (I 121 55)) 121 6 (I 121 56)) 121 7 (I 121 57)) 121 8 (I 121 58)) 121 9 (I 121 59)) 121 10 (I 121 60)) 121 11 (I 121 61)) 121 12 (I 121 62)) 121 13 (I 121 63)) 121 14 (I 121 64)) 121 15 (I 121 65)) 121 16 (I 121 66)) 121 17 (I 121 67)) 121 18 (I 121 68)) 121 19 (I 121 69)) 121 20 (I 121 70)) 121 21 (I 121 71)), J, R)) rfl ?_
  refine ev_gf (c := 86) (t := 121) (X := R 86 56) rfl rfl (fun _ => rfl) rfl (hG 86 56 121 rfl rfl) ?_
  refine ev_go 15 (pc1 := 31) (lv1 := [.ref 86, .int 1, .int 23]) (st1 := [.ref 86]) (h1 := (124, (uI (uI (uI (uI (uI (uI (uI (uI (uI (uI (uI (uI (uI (uI (uI (uI (uI (uI (uI (uI (uI (uI (uI I 121 0 (I 121 50)) 121 1 (I 121 51)) 121 2 (I 121 52)) 121 3 (I 121 53)) 121 4 (I 121 54)) 121 5 (I 121 55)) 121 6 (I 121 56)) 121 7 (I 121 57)) 121 8 (I 121 58)) 121 9 (I 121 59)) 121 10 (I 121 60)) 121 11 (I 121 61)) 121 12 (I 121 62)) 121 13 (I 121 63)) 121 14 (I 121 64)) 121 15 (I 121 65)) 121 16 (I 121 66)) 121 17 (I 121 67)) 121 18 (I 121 68)) 121 19 (I 121 69)) 121 20 (I 121 70)) 121 21 (I 121 71)) 121 22 (I 121 72)), J, R)) rfl ?_
  refine ev_gf (c := 86) (t := 121) (X := R 86 56) rfl rfl (fun _ => rfl) rfl (hG 86 56 121 rfl rfl) ?_
  refine ev_go 2 (pc1 := 36) (lv1 := [.ref 86, .int 1, .int 23]) (st1 := [.ref 86, .int 23, .ref 121]) (h1 := (124, (uI (uI (uI (uI (uI (uI (uI (uI (uI (uI (uI (uI (uI (uI (uI (uI (uI (uI (uI (uI (uI (uI (uI I 121 0 (I 121 50)) 121 1 (I 121 51)) 121 2 (I 121 52)) 121 3 (I 121 53)) 121 4 (I 121 54)) 121 5 (I 121 55)) 121 6 (I 121 56)) 121 7 (I 121 57)) 121 8 (I 121 58)) 121 9 (I 121 59)) 121 10 (I 121 60)) 121 11 (I 121 61)) 121 12 (I 121 62)) 121 13 (I 121 63)) 121 14 (I 121 64)) 121 15 (I 121 65)) 121 16 (I 121 66)) 121 17 (I 121 67)) 121 18 (I 121 68)) 121 19 (I 121 69)) 121 20 (I 121 70)) 121 21 (I 121 71)) 121 22 (I 121 72)), J, R)) rfl ?_
  refine ev_gf (c := 86) (t := 121) (X := R 86 56) rfl rfl (fun _ => rfl) rfl (hG 86 56 121 rfl rfl) ?_
  refine ev_go 15 (pc1 := 31) (lv1 := [.ref 86, .int 1, .int 24]) (st1 := [.ref 86]) (h1 := (124, (uI (uI (uI (uI (uI (uI (uI (uI (uI (uI (uI (uI (uI (uI (uI (uI (uI (uI (uI (uI (uI (uI (uI (uI I 121 0 (I 121 50)) 121 1 (I 121 51)) 121 2 (I 121 52)) 121 3 (I 121 53)) 121 4 (I 121 54)) 121 5 (I 121 55)) 121 6 (I 121 56)) 121 7 (I 121 57)) 121 8 (I 121 58)) 121 9 (I 121 59)) 121 10 (I 121 60)) 121 11 (I 121 61)) 121 12 (I 121 62)) 121 13 (I 121 63)) 121 14 (I 121 64)) 121 15 (I 121 65)) 121 16 (I 121 66)) 121 17 (I 121 67)) 121 18 (I 121 68)) 121 19 (I 121 69)) 121 20 (I 121 70)) 121 21 (I 121 71)) 121 22 (I 121 72)) 121 23 (I 121 73)), J, R)) rfl ?_
  refine ev_gf (c := 86) (t := 121) (X := R 86 56) rfl rfl (fun _ => rfl) rfl (hG 86 56 121 rfl rfl) ?_
  refine ev_go 2 (pc1 := 36) (lv1 := [.ref 86, .int 1, .int 24]) (st1 := [.ref 86, .int 24, .ref 121]) (h1 := (124, (uI (uI (uI (uI (uI (uI (uI (uI (uI (uI (uI (uI (uI (uI (uI (uI (uI (uI (uI (uI (uI (uI (uI (uI I 121 0 (I 121 50)) 121 1 (I 121 51)) 121 2 (I 121 52)) 121 3 (I 121 53)) 121 4 (I 121 54)) 121 5 (I 121 55)) 121 6 (I 121 56)) 121 7 (I 121 57)) 121 8 (I 121 58)) 121 9 (I 121 59)) 121 10 (I 121 60)) 121 11 (I 121 61)) 121 12 (I 121 62)) 121 13 (I 121 63)) 121 14 (I 121 64)) 121 15 (I 121 65)) 121 16 (I 121 66)) 121 17 (I 121 67)) 121 18 (I 121 68)) 121 19 (I 121 69)) 121 20 (I 121 70)) 121 21 (I 121 71)) 121 22 (I 121 72)) 121 23 (I 121 73)), J, R)) rfl ?_
  refine ev_gf (c := 86) (t := 121) (X := R 86 56) rfl rfl (fun _ => rfl) rfl (hG 86 56 121 rfl rfl) ?_
  refine ev_go 15 (pc1 := 56) (lv1 := [.ref 86, .int 1, .int 25]) (st1 := [.ref 86]) (h1 := (124, (uI (uI (uI (uI (uI (uI (uI (uI (uI (uI (uI (uI (uI (uI (uI (uI (uI (uI (uI (uI (uI (uI (uI (uI (uI I 121 0 (I 121 50)) 121 1 (I 121 51)) 121 2 (I 121 52)) 121 3 (I 121 53)) 121 4 (I 121 54)) 121 5 (I 121 55)) 121 6 (I 121 56)) 121 7 (I 121 57)) 121 8 (I 121 58)) 121 9 (I 121 59)) 121 10 (I 121 60)) 121 11 (I 121 61)) 121 12 (I 121 62)) 121 13 (I 121 63)) 121 14 (I 121 64)) 121 15 (I 121 65)) 121 16 (I 121 66)) 121 17 (I 121 67)) 121 18 (I 121 68)) 121 19 (I 121 69)) 121 20 (I 121 70)) 121 21 (I 121 71)) 121 22 (I 121 72)) 121 23 (I 121 73)) 121 24 (I 121 74)), J, R)) rfl ?_
  refine ev_gf (c := 86) (t := 122) (X := R 86 57) rfl rfl (fun _ => rfl) rfl (hG 86 57 122 rfl rfl) ?_
  refine ev_go 2 (pc1 := 61) (lv1 := [.ref 86, .int 1, .int 25]) (st1 := [.ref 86, .int 0, .ref 122]) (h1 := (124, (uI (uI (uI (uI (uI (uI (uI (uI (uI (uI (uI (uI (uI (uI (uI (uI (uI (uI (uI (uI (uI (uI (uI (uI (uI I 121 0 (I 121 50)) 121 1 (I 121 51)) 121 2 (I 121 52)) 121 3 (I 121 53)) 121 4 (I 121 54)) 121 5 (I 121 55)) 121 6 (I 121 56)) 121 7 (I 121 57)) 121 8 (I 121 58)) 121 9 (I 121 59)) 121 10 (I 121 60)) 121 11 (I 121 61)) 121 12 (I 121 62)) 121 13 (I 121 63)) 121 14 (I 121 64)) 121 15 (I 121 65)) 121 16 (I 121 66)) 121 17 (I 121 67)) 121 18 (I 121 68)) 121 19 (I 121 69)) 121 20 (I 121 70)) 121 21 (I 121 71)) 121 22 (I 121 72)) 121 23 (I 121 73)) 121 24 (I 121 74)), J, R)) rfl ?_
  refine ev_gf (c := 86) (t := 122) (X := R 86 57) rfl rfl (fun _ => rfl) rfl (hG 86 57 122 rfl rfl) ?_
  refine ev_go 6 (pc1 := 70) (lv1 := [.ref 86, .int 1, .int 25]) (st1 := [.ref 86]) (h1 := (124, (uI (uI (uI (uI (uI (uI (uI (uI (uI (uI (uI (uI (uI (uI (uI (uI (uI (uI (uI (uI (uI (uI (uI (uI (uI I 121 0 (I 121 50)) 121 1 (I 121 51)) 121 2 (I 121 52)) 121 3 (I 121 53)) 121 4 (I 121 54)) 121 5 (I 121 55)) 121 6 (I 121 56)) 121 7 (I 121 57)) 121 8 (I 121 58)) 121 9 (I 121 59)) 121 10 (I 121 60)) 121 11 (I 121 61)) 121 12 (I 121 62)) 121 13 (I 121 63)) 121 14 (I 121 64)) 121 15 (I 121 65)) 121 16 (I 121 66)) 121 17 (I 121 67)) 121 18 (I 121 68)) 121 19 (I 121 69)) 121 20 (I 121 70)) 121 21 (I 121 71)) 121 22 (I 121 72)) 121 23 (I 121 73)) 121 24 (I 121 74)), (uL J 122 0 (J 122 2)), R)) rfl ?_
  refine ev_gf (c := 86) (t := 121) (X := R 86 56) rfl rfl (fun _ => rfl) rfl (hG 86 56 121 rfl rfl) ?_
  refine ev_go 2 (pc1 := 75) (lv1 := [.ref 86, .int 1, .int 25]) (st1 := [.int (I 121 51)]) (h1 := (124, (uI (uI (uI (uI (uI (uI (uI (uI (uI (uI (uI (uI (uI (uI (uI (uI (uI (uI (uI (uI (uI (uI (uI (uI (uI I 121 0 (I 121 50)) 121 1 (I 121 51)) 121 2 (I 121 52)) 121 3 (I 121 53)) 121 4 (I 121 54)) 121 5 (I 121 55)) 121 6 (I 121 56)) 121 7 (I 121 57)) 121 8 (I 121 58)) 121 9 (I 121 59)) 121 10 (I 121 60)) 121 11 (I 121 61)) 121 12 (I 121 62)) 121 13 (I 121 63)) 121 14 (I 121 64)) 121 15 (I 121 65)) 121 16 (I 121 66)) 121 17 (I 121 67)) 121 18 (I 121 68)) 121 19 (I 121 69)) 121 20 (I 121 70)) 121 21 (I 121 71)) 121 22 (I 121 72)) 121 23 (I 121 73)) 121 24 (I 121 74)), (uL J 122 0 (J 122 2)), R)) rfl ?_
  exact ev_ret rfl rfl
set_option maxRecDepth 20000 in
theorem tX_o2 {L : Nat} {xs : Nat → Int32} {d : Nat} {I : Nat → Nat → Int32} {J : Nat → Nat → Int64} {R : Nat → Nat → Nat} (hG : aGd R) (c1 : xEv L xs d 136 0 [.ref 63, .int 2] [] (124, I, J, R) (some (.ref 81)) (124, I, J, R)) (b1 : (I 81 4).toInt = 0) : xEv L xs (d + 1) 138 0 [.ref 0, .int 2, xmk] [] (124, I, J, R) (some (.int (-4))) (124, I, J, R) := by
  refine ev_go 6 (pc1 := 13) (lv1 := [.ref 0, .int 2, xmk]) (st1 := [.ref 0]) (h1 := (124, I, J, R)) rfl ?_
  refine ev_gf (c := 0) (t := 63) (X := R 0 7) rfl rfl (fun _ => rfl) rfl (hG 0 7 63 rfl rfl) ?_
  refine ev_go 1 (pc1 := 17) (lv1 := [.ref 0, .int 2, xmk]) (st1 := [.int 2, .ref 63]) (h1 := (124, I, J, R)) rfl ?_
  refine ev_call (v1 := (some (.ref 81))) (h1 := (124, I, J, R)) rfl rfl c1 ?_
  refine ev_go 3 (pc1 := 25) (lv1 := [.ref 0, .int 2, .ref 81]) (st1 := [.int (I 81 4)]) (h1 := (124, I, J, R)) rfl ?_
  refine ev_br (b1 := false) rfl rfl (xcd_nne (x := (I 81 4)) (y := 0) (by rw [show ((0 : Int32)).toInt = 0 from by decide]; first | exact b1 | omega)) ?_
  refine ev_go 1 (pc1 := 30) (lv1 := [.ref 0, .int 2, .ref 81]) (st1 := [.int (-4)]) (h1 := (124, I, J, R)) rfl ?_
  exact ev_ret rfl rfl
set_option maxRecDepth 20000 in
theorem tX_r2 {L : Nat} {xs : Nat → Int32} {d : Nat} {I : Nat → Nat → Int32} {J : Nat → Nat → Int64} {R : Nat → Nat → Nat} (hG : aGd R) (c1 : xEv L xs d 136 0 [.ref 63, .int 2] [] (124, I, J, R) (some (.ref 81)) (124, I, J, R)) (b1 : (I 81 4).toInt ≠ 0) (c2 : xEv L xs d 137 0 [.ref 66, .ref 81] [] (124, I, J, R) none (124, (uC (uC (uC (uC (uI (uI (uI I 66 4 (I 81 4)) 66 5 (I 81 5)) 66 6 (I 81 6)) 82 67 4) 83 68 4) 84 69 4) 85 70 4), (uL J 66 7 (J 81 7)), R)) : xEv L xs (d + 1) 138 0 [.ref 0, .int 2, xmk] [] (124, I, J, R) (some (.int (I 81 5))) (124, (uC (uC (uC (uC (uI (uI (uI I 66 4 (I 81 4)) 66 5 (I 81 5)) 66 6 (I 81 6)) 82 67 4) 83 68 4) 84 69 4) 85 70 4), (uL J 66 7 (J 81 7)), R) := by
  refine ev_go 6 (pc1 := 13) (lv1 := [.ref 0, .int 2, xmk]) (st1 := [.ref 0]) (h1 := (124, I, J, R)) rfl ?_
  refine ev_gf (c := 0) (t := 63) (X := R 0 7) rfl rfl (fun _ => rfl) rfl (hG 0 7 63 rfl rfl) ?_
  refine ev_go 1 (pc1 := 17) (lv1 := [.ref 0, .int 2, xmk]) (st1 := [.int 2, .ref 63]) (h1 := (124, I, J, R)) rfl ?_
  refine ev_call (v1 := (some (.ref 81))) (h1 := (124, I, J, R)) rfl rfl c1 ?_
  refine ev_go 3 (pc1 := 25) (lv1 := [.ref 0, .int 2, .ref 81]) (st1 := [.int (I 81 4)]) (h1 := (124, I, J, R)) rfl ?_
  refine ev_br (b1 := true) rfl rfl (xcd_ne (x := (I 81 4)) (y := 0) (by rw [show ((0 : Int32)).toInt = 0 from by decide]; first | exact b1 | omega)) ?_
  refine ev_go 1 (pc1 := 32) (lv1 := [.ref 0, .int 2, .ref 81]) (st1 := [.ref 0]) (h1 := (124, I, J, R)) rfl ?_
  refine ev_gf (c := 0) (t := 63) (X := R 0 7) rfl rfl (fun _ => rfl) rfl (hG 0 7 63 rfl rfl) ?_
  refine ev_gf (c := 63) (t := 66) (X := R 63 3) rfl rfl (fun _ => rfl) rfl (hG 63 3 66 rfl rfl) ?_
  refine ev_go 1 (pc1 := 39) (lv1 := [.ref 0, .int 2, .ref 81]) (st1 := [.ref 81, .ref 66]) (h1 := (124, I, J, R)) rfl ?_
  refine ev_call (v1 := none) (h1 := (124, (uC (uC (uC (uC (uI (uI (uI I 66 4 (I 81 4)) 66 5 (I 81 5)) 66 6 (I 81 6)) 82 67 4) 83 68 4) 84 69 4) 85 70 4), (uL J 66 7 (J 81 7)), R)) rfl rfl c2 ?_
  refine ev_go 1 (pc1 := 43) (lv1 := [.ref 0, .int 2, .ref 81]) (st1 := [.ref 0]) (h1 := (124, (uC (uC (uC (uC (uI (uI (uI I 66 4 (I 81 4)) 66 5 (I 81 5)) 66 6 (I 81 6)) 82 67 4) 83 68 4) 84 69 4) 85 70 4), (uL J 66 7 (J 81 7)), R)) rfl ?_
  refine ev_gf (c := 0) (t := 63) (X := R 0 7) rfl rfl (fun _ => rfl) rfl (hG 0 7 63 rfl rfl) ?_
  refine ev_gf (c := 63) (t := 66) (X := R 63 3) rfl rfl (fun _ => rfl) rfl (hG 63 3 66 rfl rfl) ?_
  refine ev_go 1 (pc1 := 52) (lv1 := [.ref 0, .int 2, .ref 81]) (st1 := [.int (I 81 5)]) (h1 := (124, (uC (uC (uC (uC (uI (uI (uI I 66 4 (I 81 4)) 66 5 (I 81 5)) 66 6 (I 81 6)) 82 67 4) 83 68 4) 84 69 4) 85 70 4), (uL J 66 7 (J 81 7)), R)) rfl ?_
  exact ev_ret rfl rfl
set_option maxRecDepth 20000 in
theorem tM_o2 {L : Nat} {xs : Nat → Int32} {d : Nat} {I : Nat → Nat → Int32} {J : Nat → Nat → Int64} {R : Nat → Nat → Nat} (hG : aGd R) (c1 : xEv L xs d 234 0 [.int 2] [] (124, I, J, R) (some (.int 1)) (124, I, J, R)) (b1 : (I 123 2).toInt = 0) : xEv L xs (d + 1) 235 0 [.ref 86, .int 2, xmk] [] (124, I, J, R) (some (.int (-4))) (124, I, J, R) := by
  refine ev_go 1 (pc1 := 1) (lv1 := [.ref 86, .int 2, xmk]) (st1 := [.int 2]) (h1 := (124, I, J, R)) rfl ?_
  refine ev_call (v1 := (some (.int 1))) (h1 := (124, I, J, R)) rfl rfl c1 ?_
  refine ev_go 2 (pc1 := 11) (lv1 := [.ref 86, .int 2, xmk]) (st1 := [.ref 86]) (h1 := (124, I, J, R)) rfl ?_
  refine ev_gf (c := 86) (t := 123) (X := R 86 58) rfl rfl (fun _ => rfl) rfl (hG 86 58 123 rfl rfl) ?_
  refine ev_go 2 (pc1 := 16) (lv1 := [.ref 86, .int 2, xmk]) (st1 := [.int (I 123 2)]) (h1 := (124, I, J, R)) rfl ?_
  refine ev_br (b1 := false) rfl rfl (xcd_nne (x := (I 123 2)) (y := 0) (by rw [show ((0 : Int32)).toInt = 0 from by decide]; first | exact b1 | omega)) ?_
  refine ev_go 1 (pc1 := 21) (lv1 := [.ref 86, .int 2, xmk]) (st1 := [.int (-4)]) (h1 := (124, I, J, R)) rfl ?_
  exact ev_ret rfl rfl
set_option maxRecDepth 20000 in
theorem tM_r2 {L : Nat} {xs : Nat → Int32} {d : Nat} {I : Nat → Nat → Int32} {J : Nat → Nat → Int64} {R : Nat → Nat → Nat} (hG : aGd R) (c1 : xEv L xs d 234 0 [.int 2] [] (124, I, J, R) (some (.int 1)) (124, I, J, R)) (b1 : (I 123 2).toInt ≠ 0) : xEv L xs (d + 1) 235 0 [.ref 86, .int 2, xmk] [] (124, I, J, R) (some (.int (I 121 76))) (124, (uI (uI (uI (uI (uI (uI (uI (uI (uI (uI (uI (uI (uI (uI (uI (uI (uI (uI (uI (uI (uI (uI (uI (uI (uI I 121 0 (I 121 75)) 121 1 (I 121 76)) 121 2 (I 121 77)) 121 3 (I 121 78)) 121 4 (I 121 79)) 121 5 (I 121 80)) 121 6 (I 121 81)) 121 7 (I 121 82)) 121 8 (I 121 83)) 121 9 (I 121 84)) 121 10 (I 121 85)) 121 11 (I 121 86)) 121 12 (I 121 87)) 121 13 (I 121 88)) 121 14 (I 121 89)) 121 15 (I 121 90)) 121 16 (I 121 91)) 121 17 (I 121 92)) 121 18 (I 121 93)) 121 19 (I 121 94)) 121 20 (I 121 95)) 121 21 (I 121 96)) 121 22 (I 121 97)) 121 23 (I 121 98)) 121 24 (I 121 99)), (uL J 122 0 (J 122 3)), R) := by
  refine ev_go 1 (pc1 := 1) (lv1 := [.ref 86, .int 2, xmk]) (st1 := [.int 2]) (h1 := (124, I, J, R)) rfl ?_
  refine ev_call (v1 := (some (.int 1))) (h1 := (124, I, J, R)) rfl rfl c1 ?_
  refine ev_go 2 (pc1 := 11) (lv1 := [.ref 86, .int 2, xmk]) (st1 := [.ref 86]) (h1 := (124, I, J, R)) rfl ?_
  refine ev_gf (c := 86) (t := 123) (X := R 86 58) rfl rfl (fun _ => rfl) rfl (hG 86 58 123 rfl rfl) ?_
  refine ev_go 2 (pc1 := 16) (lv1 := [.ref 86, .int 2, xmk]) (st1 := [.int (I 123 2)]) (h1 := (124, I, J, R)) rfl ?_
  refine ev_br (b1 := true) rfl rfl (xcd_ne (x := (I 123 2)) (y := 0) (by rw [show ((0 : Int32)).toInt = 0 from by decide]; first | exact b1 | omega)) ?_
  refine ev_go 6 (pc1 := 31) (lv1 := [.ref 86, .int 2, .int 0]) (st1 := [.ref 86]) (h1 := (124, I, J, R)) rfl ?_
  refine ev_gf (c := 86) (t := 121) (X := R 86 56) rfl rfl (fun _ => rfl) rfl (hG 86 56 121 rfl rfl) ?_
  refine ev_go 2 (pc1 := 36) (lv1 := [.ref 86, .int 2, .int 0]) (st1 := [.ref 86, .int 0, .ref 121]) (h1 := (124, I, J, R)) rfl ?_
  refine ev_gf (c := 86) (t := 121) (X := R 86 56) rfl rfl (fun _ => rfl) rfl (hG 86 56 121 rfl rfl) ?_
  refine ev_go 15 (pc1 := 31) (lv1 := [.ref 86, .int 2, .int 1]) (st1 := [.ref 86]) (h1 := (124, (uI I 121 0 (I 121 75)), J, R)) rfl ?_
  refine ev_gf (c := 86) (t := 121) (X := R 86 56) rfl rfl (fun _ => rfl) rfl (hG 86 56 121 rfl rfl) ?_
  refine ev_go 2 (pc1 := 36) (lv1 := [.ref 86, .int 2, .int 1]) (st1 := [.ref 86, .int 1, .ref 121]) (h1 := (124, (uI I 121 0 (I 121 75)), J, R)) rfl ?_
  refine ev_gf (c := 86) (t := 121) (X := R 86 56) rfl rfl (fun _ => rfl) rfl (hG 86 56 121 rfl rfl) ?_
  refine ev_go 15 (pc1 := 31) (lv1 := [.ref 86, .int 2, .int 2]) (st1 := [.ref 86]) (h1 := (124, (uI (uI I 121 0 (I 121 75)) 121 1 (I 121 76)), J, R)) rfl ?_
  refine ev_gf (c := 86) (t := 121) (X := R 86 56) rfl rfl (fun _ => rfl) rfl (hG 86 56 121 rfl rfl) ?_
  refine ev_go 2 (pc1 := 36) (lv1 := [.ref 86, .int 2, .int 2]) (st1 := [.ref 86, .int 2, .ref 121]) (h1 := (124, (uI (uI I 121 0 (I 121 75)) 121 1 (I 121 76)), J, R)) rfl ?_
  refine ev_gf (c := 86) (t := 121) (X := R 86 56) rfl rfl (fun _ => rfl) rfl (hG 86 56 121 rfl rfl) ?_
  refine ev_go 15 (pc1 := 31) (lv1 := [.ref 86, .int 2, .int 3]) (st1 := [.ref 86]) (h1 := (124, (uI (uI (uI I 121 0 (I 121 75)) 121 1 (I 121 76)) 121 2 (I 121 77)), J, R)) rfl ?_
  refine ev_gf (c := 86) (t := 121) (X := R 86 56) rfl rfl (fun _ => rfl) rfl (hG 86 56 121 rfl rfl) ?_
  refine ev_go 2 (pc1 := 36) (lv1 := [.ref 86, .int 2, .int 3]) (st1 := [.ref 86, .int 3, .ref 121]) (h1 := (124, (uI (uI (uI I 121 0 (I 121 75)) 121 1 (I 121 76)) 121 2 (I 121 77)), J, R)) rfl ?_
  refine ev_gf (c := 86) (t := 121) (X := R 86 56) rfl rfl (fun _ => rfl) rfl (hG 86 56 121 rfl rfl) ?_
  refine ev_go 15 (pc1 := 31) (lv1 := [.ref 86, .int 2, .int 4]) (st1 := [.ref 86]) (h1 := (124, (uI (uI (uI (uI I 121 0 (I 121 75)) 121 1 (I 121 76)) 121 2 (I 121 77)) 121 3 (I 121 78)), J, R)) rfl ?_
  refine ev_gf (c := 86) (t := 121) (X := R 86 56) rfl rfl (fun _ => rfl) rfl (hG 86 56 121 rfl rfl) ?_
  refine ev_go 2 (pc1 := 36) (lv1 := [.ref 86, .int 2, .int 4]) (st1 := [.ref 86, .int 4, .ref 121]) (h1 := (124, (uI (uI (uI (uI I 121 0 (I 121 75)) 121 1 (I 121 76)) 121 2 (I 121 77)) 121 3 (I 121 78)), J, R)) rfl ?_
  refine ev_gf (c := 86) (t := 121) (X := R 86 56) rfl rfl (fun _ => rfl) rfl (hG 86 56 121 rfl rfl) ?_
  refine ev_go 15 (pc1 := 31) (lv1 := [.ref 86, .int 2, .int 5]) (st1 := [.ref 86]) (h1 := (124, (uI (uI (uI (uI (uI I 121 0 (I 121 75)) 121 1 (I 121 76)) 121 2 (I 121 77)) 121 3 (I 121 78)) 121 4 (I 121 79)), J, R)) rfl ?_
  refine ev_gf (c := 86) (t := 121) (X := R 86 56) rfl rfl (fun _ => rfl) rfl (hG 86 56 121 rfl rfl) ?_
  refine ev_go 2 (pc1 := 36) (lv1 := [.ref 86, .int 2, .int 5]) (st1 := [.ref 86, .int 5, .ref 121]) (h1 := (124, (uI (uI (uI (uI (uI I 121 0 (I 121 75)) 121 1 (I 121 76)) 121 2 (I 121 77)) 121 3 (I 121 78)) 121 4 (I 121 79)), J, R)) rfl ?_
  refine ev_gf (c := 86) (t := 121) (X := R 86 56) rfl rfl (fun _ => rfl) rfl (hG 86 56 121 rfl rfl) ?_
  refine ev_go 15 (pc1 := 31) (lv1 := [.ref 86, .int 2, .int 6]) (st1 := [.ref 86]) (h1 := (124, (uI (uI (uI (uI (uI (uI I 121 0 (I 121 75)) 121 1 (I 121 76)) 121 2 (I 121 77)) 121 3 (I 121 78)) 121 4 (I 121 79)) 121 5 (I 121 80)), J, R)) rfl ?_
  refine ev_gf (c := 86) (t := 121) (X := R 86 56) rfl rfl (fun _ => rfl) rfl (hG 86 56 121 rfl rfl) ?_
  refine ev_go 2 (pc1 := 36) (lv1 := [.ref 86, .int 2, .int 6]) (st1 := [.ref 86, .int 6, .ref 121]) (h1 := (124, (uI (uI (uI (uI (uI (uI I 121 0 (I 121 75)) 121 1 (I 121 76)) 121 2 (I 121 77)) 121 3 (I 121 78)) 121 4 (I 121 79)) 121 5 (I 121 80)), J, R)) rfl ?_
  refine ev_gf (c := 86) (t := 121) (X := R 86 56) rfl rfl (fun _ => rfl) rfl (hG 86 56 121 rfl rfl) ?_
  refine ev_go 15 (pc1 := 31) (lv1 := [.ref 86, .int 2, .int 7]) (st1 := [.ref 86]) (h1 := (124, (uI (uI (uI (uI (uI (uI (uI I 121 0 (I 121 75)) 121 1 (I 121 76)) 121 2 (I 121 77)) 121 3 (I 121 78)) 121 4 (I 121 79)) 121 5 (I 121 80)) 121 6 (I 121 81)), J, R)) rfl ?_
  refine ev_gf (c := 86) (t := 121) (X := R 86 56) rfl rfl (fun _ => rfl) rfl (hG 86 56 121 rfl rfl) ?_
  refine ev_go 2 (pc1 := 36) (lv1 := [.ref 86, .int 2, .int 7]) (st1 := [.ref 86, .int 7, .ref 121]) (h1 := (124, (uI (uI (uI (uI (uI (uI (uI I 121 0 (I 121 75)) 121 1 (I 121 76)) 121 2 (I 121 77)) 121 3 (I 121 78)) 121 4 (I 121 79)) 121 5 (I 121 80)) 121 6 (I 121 81)), J, R)) rfl ?_
  refine ev_gf (c := 86) (t := 121) (X := R 86 56) rfl rfl (fun _ => rfl) rfl (hG 86 56 121 rfl rfl) ?_
  refine ev_go 15 (pc1 := 31) (lv1 := [.ref 86, .int 2, .int 8]) (st1 := [.ref 86]) (h1 := (124, (uI (uI (uI (uI (uI (uI (uI (uI I 121 0 (I 121 75)) 121 1 (I 121 76)) 121 2 (I 121 77)) 121 3 (I 121 78)) 121 4 (I 121 79)) 121 5 (I 121 80)) 121 6 (I 121 81)) 121 7 (I 121 82)), J, R)) rfl ?_
  refine ev_gf (c := 86) (t := 121) (X := R 86 56) rfl rfl (fun _ => rfl) rfl (hG 86 56 121 rfl rfl) ?_
  refine ev_go 2 (pc1 := 36) (lv1 := [.ref 86, .int 2, .int 8]) (st1 := [.ref 86, .int 8, .ref 121]) (h1 := (124, (uI (uI (uI (uI (uI (uI (uI (uI I 121 0 (I 121 75)) 121 1 (I 121 76)) 121 2 (I 121 77)) 121 3 (I 121 78)) 121 4 (I 121 79)) 121 5 (I 121 80)) 121 6 (I 121 81)) 121 7 (I 121 82)), J, R)) rfl ?_
  refine ev_gf (c := 86) (t := 121) (X := R 86 56) rfl rfl (fun _ => rfl) rfl (hG 86 56 121 rfl rfl) ?_
  refine ev_go 15 (pc1 := 31) (lv1 := [.ref 86, .int 2, .int 9]) (st1 := [.ref 86]) (h1 := (124, (uI (uI (uI (uI (uI (uI (uI (uI (uI I 121 0 (I 121 75)) 121 1 (I 121 76)) 121 2 (I 121 77)) 121 3 (I 121 78)) 121 4 (I 121 79)) 121 5 (I 121 80)) 121 6 (I 121 81)) 121 7 (I 121 82)) 121 8 (I 121 83)), J, R)) rfl ?_
  refine ev_gf (c := 86) (t := 121) (X := R 86 56) rfl rfl (fun _ => rfl) rfl (hG 86 56 121 rfl rfl) ?_
  refine ev_go 2 (pc1 := 36) (lv1 := [.ref 86, .int 2, .int 9]) (st1 := [.ref 86, .int 9, .ref 121]) (h1 := (124, (uI (uI (uI (uI (uI (uI (uI (uI (uI I 121 0 (I 121 75)) 121 1 (I 121 76)) 121 2 (I 121 77)) 121 3 (I 121 78)) 121 4 (I 121 79)) 121 5 (I 121 80)) 121 6 (I 121 81)) 121 7 (I 121 82)) 121 8 (I 121 83)), J, R)) rfl ?_
  refine ev_gf (c := 86) (t := 121) (X := R 86 56) rfl rfl (fun _ => rfl) rfl (hG 86 56 121 rfl rfl) ?_
  refine ev_go 15 (pc1 := 31) (lv1 := [.ref 86, .int 2, .int 10]) (st1 := [.ref 86]) (h1 := (124, (uI (uI (uI (uI (uI (uI (uI (uI (uI (uI I 121 0 (I 121 75)) 121 1 (I 121 76)) 121 2 (I 121 77)) 121 3 (I 121 78)) 121 4 (I 121 79)) 121 5 (I 121 80)) 121 6 (I 121 81)) 121 7 (I 121 82)) 121 8 (I 121 83)) 121 9 (I 121 84)), J, R)) rfl ?_
  refine ev_gf (c := 86) (t := 121) (X := R 86 56) rfl rfl (fun _ => rfl) rfl (hG 86 56 121 rfl rfl) ?_
  refine ev_go 2 (pc1 := 36) (lv1 := [.ref 86, .int 2, .int 10]) (st1 := [.ref 86, .int 10, .ref 121]) (h1 := (124, (uI (uI (uI (uI (uI (uI (uI (uI (uI (uI I 121 0 (I 121 75)) 121 1 (I 121 76)) 121 2 (I 121 77)) 121 3 (I 121 78)) 121 4 (I 121 79)) 121 5 (I 121 80)) 121 6 (I 121 81)) 121 7 (I 121 82)) 121 8 (I 121 83)) 121 9 (I 121 84)), J, R)) rfl ?_
  refine ev_gf (c := 86) (t := 121) (X := R 86 56) rfl rfl (fun _ => rfl) rfl (hG 86 56 121 rfl rfl) ?_
  refine ev_go 15 (pc1 := 31) (lv1 := [.ref 86, .int 2, .int 11]) (st1 := [.ref 86]) (h1 := (124, (uI (uI (uI (uI (uI (uI (uI (uI (uI (uI (uI I 121 0 (I 121 75)) 121 1 (I 121 76)) 121 2 (I 121 77)) 121 3 (I 121 78)) 121 4 (I 121 79)) 121 5 (I 121 80)) 121 6 (I 121 81)) 121 7 (I 121 82)) 121 8 (I 121 83)) 121 9 (I 121 84)) 121 10 (I 121 85)), J, R)) rfl ?_
  refine ev_gf (c := 86) (t := 121) (X := R 86 56) rfl rfl (fun _ => rfl) rfl (hG 86 56 121 rfl rfl) ?_
  refine ev_go 2 (pc1 := 36) (lv1 := [.ref 86, .int 2, .int 11]) (st1 := [.ref 86, .int 11, .ref 121]) (h1 := (124, (uI (uI (uI (uI (uI (uI (uI (uI (uI (uI (uI I 121 0 (I 121 75)) 121 1 (I 121 76)) 121 2 (I 121 77)) 121 3 (I 121 78)) 121 4 (I 121 79)) 121 5 (I 121 80)) 121 6 (I 121 81)) 121 7 (I 121 82)) 121 8 (I 121 83)) 121 9 (I 121 84)) 121 10 (I 121 85)), J, R)) rfl ?_
  refine ev_gf (c := 86) (t := 121) (X := R 86 56) rfl rfl (fun _ => rfl) rfl (hG 86 56 121 rfl rfl) ?_
  refine ev_go 15 (pc1 := 31) (lv1 := [.ref 86, .int 2, .int 12]) (st1 := [.ref 86]) (h1 := (124, (uI (uI (uI (uI (uI (uI (uI (uI (uI (uI (uI (uI I 121 0 (I 121 75)) 121 1 (I 121 76)) 121 2 (I 121 77)) 121 3 (I 121 78)) 121 4 (I 121 79)) 121 5 (I 121 80)) 121 6 (I 121 81)) 121 7 (I 121 82)) 121 8 (I 121 83)) 121 9 (I 121 84)) 121 10 (I 121 85)) 121 11 (I 121 86)), J, R)) rfl ?_
  refine ev_gf (c := 86) (t := 121) (X := R 86 56) rfl rfl (fun _ => rfl) rfl (hG 86 56 121 rfl rfl) ?_
  refine ev_go 2 (pc1 := 36) (lv1 := [.ref 86, .int 2, .int 12]) (st1 := [.ref 86, .int 12, .ref 121]) (h1 := (124, (uI (uI (uI (uI (uI (uI (uI (uI (uI (uI (uI (uI I 121 0 (I 121 75)) 121 1 (I 121 76)) 121 2 (I 121 77)) 121 3 (I 121 78)) 121 4 (I 121 79)) 121 5 (I 121 80)) 121 6 (I 121 81)) 121 7 (I 121 82)) 121 8 (I 121 83)) 121 9 (I 121 84)) 121 10 (I 121 85)) 121 11 (I 121 86)), J, R)) rfl ?_
  refine ev_gf (c := 86) (t := 121) (X := R 86 56) rfl rfl (fun _ => rfl) rfl (hG 86 56 121 rfl rfl) ?_
  refine ev_go 15 (pc1 := 31) (lv1 := [.ref 86, .int 2, .int 13]) (st1 := [.ref 86]) (h1 := (124, (uI (uI (uI (uI (uI (uI (uI (uI (uI (uI (uI (uI (uI I 121 0 (I 121 75)) 121 1 (I 121 76)) 121 2 (I 121 77)) 121 3 (I 121 78)) 121 4 (I 121 79)) 121 5 (I 121 80)) 121 6 (I 121 81)) 121 7 (I 121 82)) 121 8 (I 121 83)) 121 9 (I 121 84)) 121 10 (I 121 85)) 121 11 (I 121 86)) 121 12 (I 121 87)), J, R)) rfl ?_
  refine ev_gf (c := 86) (t := 121) (X := R 86 56) rfl rfl (fun _ => rfl) rfl (hG 86 56 121 rfl rfl) ?_
  refine ev_go 2 (pc1 := 36) (lv1 := [.ref 86, .int 2, .int 13]) (st1 := [.ref 86, .int 13, .ref 121]) (h1 := (124, (uI (uI (uI (uI (uI (uI (uI (uI (uI (uI (uI (uI (uI I 121 0 (I 121 75)) 121 1 (I 121 76)) 121 2 (I 121 77)) 121 3 (I 121 78)) 121 4 (I 121 79)) 121 5 (I 121 80)) 121 6 (I 121 81)) 121 7 (I 121 82)) 121 8 (I 121 83)) 121 9 (I 121 84)) 121 10 (I 121 85)) 121 11 (I 121 86)) 121 12 (I 121 87)), J, R)) rfl ?_
  refine ev_gf (c := 86) (t := 121) (X := R 86 56) rfl rfl (fun _ => rfl) rfl (hG 86 56 121 rfl rfl) ?_
  refine ev_go 15 (pc1 := 31) (lv1 := [.ref 86, .int 2, .int 14]) (st1 := [.ref 86]) (h1 := (124, (uI (uI (uI (uI (uI (uI (uI (uI (uI (uI (uI (uI (uI (uI I 121 0 (I 121 75)) 121 1 (I 121 76)) 121 2 (I 121 77)) 121 3 (I 121 78)) 121 4 (I 121 79)) 121 5 (I 121 80)) 121 6 (I 121 81)) 121 7 (I 121 82)) 121 8 (I 121 83)) 121 9 (I 121 84)) 121 10 (I 121 85)) 121 11 (I 121 86)) 121 12 (I 121 87)) 121 13 (I 121 88)), J, R)) rfl ?_
  refine ev_gf (c := 86) (t := 121) (X := R 86 56) rfl rfl (fun _ => rfl) rfl (hG 86 56 121 rfl rfl) ?_
  refine ev_go 2 (pc1 := 36) (lv1 := [.ref 86, .int 2, .int 14]) (st1 := [.ref 86, .int 14, .ref 121]) (h1 := (124, (uI (uI (uI (uI (uI (uI (uI (uI (uI (uI (uI (uI (uI (uI I 121 0 (I 121 75)) 121 1 (I 121 76)) 121 2 (I 121 77)) 121 3 (I 121 78)) 121 4 (I 121 79)) 121 5 (I 121 80)) 121 6 (I 121 81)) 121 7 (I 121 82)) 121 8 (I 121 83)) 121 9 (I 121 84)) 121 10 (I 121 85)) 121 11 (I 121 86)) 121 12 (I 121 87)) 121 13 (I 121 88)), J, R)) rfl ?_
  refine ev_gf (c := 86) (t := 121) (X := R 86 56) rfl rfl (fun _ => rfl) rfl (hG 86 56 121 rfl rfl) ?_
  refine ev_go 15 (pc1 := 31) (lv1 := [.ref 86, .int 2, .int 15]) (st1 := [.ref 86]) (h1 := (124, (uI (uI (uI (uI (uI (uI (uI (uI (uI (uI (uI (uI (uI (uI (uI I 121 0 (I 121 75)) 121 1 (I 121 76)) 121 2 (I 121 77)) 121 3 (I 121 78)) 121 4 (I 121 79)) 121 5 (I 121 80)) 121 6 (I 121 81)) 121 7 (I 121 82)) 121 8 (I 121 83)) 121 9 (I 121 84)) 121 10 (I 121 85)) 121 11 (I 121 86)) 121 12 (I 121 87)) 121 13 (I 121 88)) 121 14 (I 121 89)), J, R)) rfl ?_
  refine ev_gf (c := 86) (t := 121) (X := R 86 56) rfl rfl (fun _ => rfl) rfl (hG 86 56 121 rfl rfl) ?_
  refine ev_go 2 (pc1 := 36) (lv1 := [.ref 86, .int 2, .int 15]) (st1 := [.ref 86, .int 15, .ref 121]) (h1 := (124, (uI (uI (uI (uI (uI (uI (uI (uI (uI (uI (uI (uI (uI (uI (uI I 121 0 (I 121 75)) 121 1 (I 121 76)) 121 2 (I 121 77)) 121 3 (I 121 78)) 121 4 (I 121 79)) 121 5 (I 121 80)) 121 6 (I 121 81)) 121 7 (I 121 82)) 121 8 (I 121 83)) 121 9 (I 121 84)) 121 10 (I 121 85)) 121 11 (I 121 86)) 121 12 (I 121 87)) 121 13 (I 121 88)) 121 14 (I 121 89)), J, R)) rfl ?_
  refine ev_gf (c := 86) (t := 121) (X := R 86 56) rfl rfl (fun _ => rfl) rfl (hG 86 56 121 rfl rfl) ?_
  refine ev_go 15 (pc1 := 31) (lv1 := [.ref 86, .int 2, .int 16]) (st1 := [.ref 86]) (h1 := (124, (uI (uI (uI (uI (uI (uI (uI (uI (uI (uI (uI (uI (uI (uI (uI (uI I 121 0 (I 121 75)) 121 1 (I 121 76)) 121 2 (I 121 77)) 121 3 (I 121 78)) 121 4 (I 121 79)) 121 5 (I 121 80)) 121 6 (I 121 81)) 121 7 (I 121 82)) 121 8 (I 121 83)) 121 9 (I 121 84)) 121 10 (I 121 85)) 121 11 (I 121 86)) 121 12 (I 121 87)) 121 13 (I 121 88)) 121 14 (I 121 89)) 121 15 (I 121 90)), J, R)) rfl ?_
  refine ev_gf (c := 86) (t := 121) (X := R 86 56) rfl rfl (fun _ => rfl) rfl (hG 86 56 121 rfl rfl) ?_
  refine ev_go 2 (pc1 := 36) (lv1 := [.ref 86, .int 2, .int 16]) (st1 := [.ref 86, .int 16, .ref 121]) (h1 := (124, (uI (uI (uI (uI (uI (uI (uI (uI (uI (uI (uI (uI (uI (uI (uI (uI I 121 0 (I 121 75)) 121 1 (I 121 76)) 121 2 (I 121 77)) 121 3 (I 121 78)) 121 4 (I 121 79)) 121 5 (I 121 80)) 121 6 (I 121 81)) 121 7 (I 121 82)) 121 8 (I 121 83)) 121 9 (I 121 84)) 121 10 (I 121 85)) 121 11 (I 121 86)) 121 12 (I 121 87)) 121 13 (I 121 88)) 121 14 (I 121 89)) 121 15 (I 121 90)), J, R)) rfl ?_
  refine ev_gf (c := 86) (t := 121) (X := R 86 56) rfl rfl (fun _ => rfl) rfl (hG 86 56 121 rfl rfl) ?_
  refine ev_go 15 (pc1 := 31) (lv1 := [.ref 86, .int 2, .int 17]) (st1 := [.ref 86]) (h1 := (124, (uI (uI (uI (uI (uI (uI (uI (uI (uI (uI (uI (uI (uI (uI (uI (uI (uI I 121 0 (I 121 75)) 121 1 (I 121 76)) 121 2 (I 121 77)) 121 3 (I 121 78)) 121 4 (I 121 79)) 121 5 (I 121 80)) 121 6 (I 121 81)) 121 7 (I 121 82)) 121 8 (I 121 83)) 121 9 (I 121 84)) 121 10 (I 121 85)) 121 11 (I 121 86)) 121 12 (I 121 87)) 121 13 (I 121 88)) 121 14 (I 121 89)) 121 15 (I 121 90)) 121 16 (I 121 91)), J, R)) rfl ?_
  refine ev_gf (c := 86) (t := 121) (X := R 86 56) rfl rfl (fun _ => rfl) rfl (hG 86 56 121 rfl rfl) ?_
  refine ev_go 2 (pc1 := 36) (lv1 := [.ref 86, .int 2, .int 17]) (st1 := [.ref 86, .int 17, .ref 121]) (h1 := (124, (uI (uI (uI (uI (uI (uI (uI (uI (uI (uI (uI (uI (uI (uI (uI (uI (uI I 121 0 (I 121 75)) 121 1 (I 121 76)) 121 2 (I 121 77)) 121 3 (I 121 78)) 121 4 (I 121 79)) 121 5 (I 121 80)) 121 6 (I 121 81)) 121 7 (I 121 82)) 121 8 (I 121 83)) 121 9 (I 121 84)) 121 10 (I 121 85)) 121 11 (I 121 86)) 121 12 (I 121 87)) 121 13 (I 121 88)) 121 14 (I 121 89)) 121 15 (I 121 90)) 121 16 (I 121 91)), J, R)) rfl ?_
  refine ev_gf (c := 86) (t := 121) (X := R 86 56) rfl rfl (fun _ => rfl) rfl (hG 86 56 121 rfl rfl) ?_
  refine ev_go 15 (pc1 := 31) (lv1 := [.ref 86, .int 2, .int 18]) (st1 := [.ref 86]) (h1 := (124, (uI (uI (uI (uI (uI (uI (uI (uI (uI (uI (uI (uI (uI (uI (uI (uI (uI (uI I 121 0 (I 121 75)) 121 1 (I 121 76)) 121 2 (I 121 77)) 121 3 (I 121 78)) 121 4 (I 121 79)) 121 5 (I 121 80)) 121 6 (I 121 81)) 121 7 (I 121 82)) 121 8 (I 121 83)) 121 9 (I 121 84)) 121 10 (I 121 85)) 121 11 (I 121 86)) 121 12 (I 121 87)) 121 13 (I 121 88)) 121 14 (I 121 89)) 121 15 (I 121 90)) 121 16 (I 121 91)) 121 17 (I 121 92)), J, R)) rfl ?_
  refine ev_gf (c := 86) (t := 121) (X := R 86 56) rfl rfl (fun _ => rfl) rfl (hG 86 56 121 rfl rfl) ?_
  refine ev_go 2 (pc1 := 36) (lv1 := [.ref 86, .int 2, .int 18]) (st1 := [.ref 86, .int 18, .ref 121]) (h1 := (124, (uI (uI (uI (uI (uI (uI (uI (uI (uI (uI (uI (uI (uI (uI (uI (uI (uI (uI I 121 0 (I 121 75)) 121 1 (I 121 76)) 121 2 (I 121 77)) 121 3 (I 121 78)) 121 4 (I 121 79)) 121 5 (I 121 80)) 121 6 (I 121 81)) 121 7 (I 121 82)) 121 8 (I 121 83)) 121 9 (I 121 84)) 121 10 (I 121 85)) 121 11 (I 121 86)) 121 12 (I 121 87)) 121 13 (I 121 88)) 121 14 (I 121 89)) 121 15 (I 121 90)) 121 16 (I 121 91)) 121 17 (I 121 92)), J, R)) rfl ?_
  refine ev_gf (c := 86) (t := 121) (X := R 86 56) rfl rfl (fun _ => rfl) rfl (hG 86 56 121 rfl rfl) ?_
  refine ev_go 15 (pc1 := 31) (lv1 := [.ref 86, .int 2, .int 19]) (st1 := [.ref 86]) (h1 := (124, (uI (uI (uI (uI (uI (uI (uI (uI (uI (uI (uI (uI (uI (uI (uI (uI (uI (uI (uI I 121 0 (I 121 75)) 121 1 (I 121 76)) 121 2 (I 121 77)) 121 3 (I 121 78)) 121 4 (I 121 79)) 121 5 (I 121 80)) 121 6 (I 121 81)) 121 7 (I 121 82)) 121 8 (I 121 83)) 121 9 (I 121 84)) 121 10 (I 121 85)) 121 11 (I 121 86)) 121 12 (I 121 87)) 121 13 (I 121 88)) 121 14 (I 121 89)) 121 15 (I 121 90)) 121 16 (I 121 91)) 121 17 (I 121 92)) 121 18 (I 121 93)), J, R)) rfl ?_
  refine ev_gf (c := 86) (t := 121) (X := R 86 56) rfl rfl (fun _ => rfl) rfl (hG 86 56 121 rfl rfl) ?_
  refine ev_go 2 (pc1 := 36) (lv1 := [.ref 86, .int 2, .int 19]) (st1 := [.ref 86, .int 19, .ref 121]) (h1 := (124, (uI (uI (uI (uI (uI (uI (uI (uI (uI (uI (uI (uI (uI (uI (uI (uI (uI (uI (uI I 121 0 (I 121 75)) 121 1 (I 121 76)) 121 2 (I 121 77)) 121 3 (I 121 78)) 121 4 (I 121 79)) 121 5 (I 121 80)) 121 6 (I 121 81)) 121 7 (I 121 82)) 121 8 (I 121 83)) 121 9 (I 121 84)) 121 10 (I 121 85)) 121 11 (I 121 86)) 121 12 (I 121 87)) 121 13 (I 121 88)) 121 14 (I 121 89)) 121 15 (I 121 90)) 121 16 (I 121 91)) 121 17 (I 121 92)) 121 18 (I 121 93)), J, R)) rfl ?_
  refine ev_gf (c := 86) (t := 121) (X := R 86 56) rfl rfl (fun _ => rfl) rfl (hG 86 56 121 rfl rfl) ?_
  refine ev_go 15 (pc1 := 31) (lv1 := [.ref 86, .int 2, .int 20]) (st1 := [.ref 86]) (h1 := (124, (uI (uI (uI (uI (uI (uI (uI (uI (uI (uI (uI (uI (uI (uI (uI (uI (uI (uI (uI (uI I 121 0 (I 121 75)) 121 1 (I 121 76)) 121 2 (I 121 77)) 121 3 (I 121 78)) 121 4 (I 121 79)) 121 5 (I 121 80)) 121 6 (I 121 81)) 121 7 (I 121 82)) 121 8 (I 121 83)) 121 9 (I 121 84)) 121 10 (I 121 85)) 121 11 (I 121 86)) 121 12 (I 121 87)) 121 13 (I 121 88)) 121 14 (I 121 89)) 121 15 (I 121 90)) 121 16 (I 121 91)) 121 17 (I 121 92)) 121 18 (I 121 93)) 121 19 (I 121 94)), J, R)) rfl ?_
  refine ev_gf (c := 86) (t := 121) (X := R 86 56) rfl rfl (fun _ => rfl) rfl (hG 86 56 121 rfl rfl) ?_
  refine ev_go 2 (pc1 := 36) (lv1 := [.ref 86, .int 2, .int 20]) (st1 := [.ref 86, .int 20, .ref 121]) (h1 := (124, (uI (uI (uI (uI (uI (uI (uI (uI (uI (uI (uI (uI (uI (uI (uI (uI (uI (uI (uI (uI I 121 0 (I 121 75)) 121 1 (I 121 76)) 121 2 (I 121 77)) 121 3 (I 121 78)) 121 4 (I 121 79)) 121 5 (I 121 80)) 121 6 (I 121 81)) 121 7 (I 121 82)) 121 8 (I 121 83)) 121 9 (I 121 84)) 121 10 (I 121 85)) 121 11 (I 121 86)) 121 12 (I 121 87)) 121 13 (I 121 88)) 121 14 (I 121 89)) 121 15 (I 121 90)) 121 16 (I 121 91)) 121 17 (I 121 92)) 121 18 (I 121 93)) 121 19 (I 121 94)), J, R)) rfl ?_
  refine ev_gf (c := 86) (t := 121) (X := R 86 56) rfl rfl (fun _ => rfl) rfl (hG 86 56 121 rfl rfl) ?_
  refine ev_go 15 (pc1 := 31) (lv1 := [.ref 86, .int 2, .int 21]) (st1 := [.ref 86]) (h1 := (124, (uI (uI (uI (uI (uI (uI (uI (uI (uI (uI (uI (uI (uI (uI (uI (uI (uI (uI (uI (uI (uI I 121 0 (I 121 75)) 121 1 (I 121 76)) 121 2 (I 121 77)) 121 3 (I 121 78)) 121 4 (I 121 79)) 121 5 (I 121 80)) 121 6 (I 121 81)) 121 7 (I 121 82)) 121 8 (I 121 83)) 121 9 (I 121 84)) 121 10 (I 121 85)) 121 11 (I 121 86)) 121 12 (I 121 87)) 121 13 (I 121 88)) 121 14 (I 121 89)) 121 15 (I 121 90)) 121 16 (I 121 91)) 121 17 (I 121 92)) 121 18 (I 121 93)) 121 19 (I 121 94)) 121 20 (I 121 95)), J, R)) rfl ?_
  refine ev_gf (c := 86) (t := 121) (X := R 86 56) rfl rfl (fun _ => rfl) rfl (hG 86 56 121 rfl rfl) ?_
  refine ev_go 2 (pc1 := 36) (lv1 := [.ref 86, .int 2, .int 21]) (st1 := [.ref 86, .int 21, .ref 121]) (h1 := (124, (uI (uI (uI (uI (uI (uI (uI (uI (uI (uI (uI (uI (uI (uI (uI (uI (uI (uI (uI (uI (uI I 121 0 (I 121 75)) 121 1 (I 121 76)) 121 2 (I 121 77)) 121 3 (I 121 78)) 121 4 (I 121 79)) 121 5 (I 121 80)) 121 6 (I 121 81)) 121 7 (I 121 82)) 121 8 (I 121 83)) 121 9 (I 121 84)) 121 10 (I 121 85)) 121 11 (I 121 86)) 121 12 (I 121 87)) 121 13 (I 121 88)) 121 14 (I 121 89)) 121 15 (I 121 90)) 121 16 (I 121 91)) 121 17 (I 121 92)) 121 18 (I 121 93)) 121 19 (I 121 94)) 121 20 (I 121 95)), J, R)) rfl ?_
  refine ev_gf (c := 86) (t := 121) (X := R 86 56) rfl rfl (fun _ => rfl) rfl (hG 86 56 121 rfl rfl) ?_
  refine ev_go 15 (pc1 := 31) (lv1 := [.ref 86, .int 2, .int 22]) (st1 := [.ref 86]) (h1 := (124, (uI (uI (uI (uI (uI (uI (uI (uI (uI (uI (uI (uI (uI (uI (uI (uI (uI (uI (uI (uI (uI (uI I 121 0 (I 121 75)) 121 1 (I 121 76)) 121 2 (I 121 77)) 121 3 (I 121 78)) 121 4 (I 121 79)) 121 5 (I 121 80)) 121 6 (I 121 81)) 121 7 (I 121 82)) 121 8 (I 121 83)) 121 9 (I 121 84)) 121 10 (I 121 85)) 121 11 (I 121 86)) 121 12 (I 121 87)) 121 13 (I 121 88)) 121 14 (I 121 89)) 121 15 (I 121 90)) 121 16 (I 121 91)) 121 17 (I 121 92)) 121 18 (I 121 93)) 121 19 (I 121 94)) 121 20 (I 121 95)) 121 21 (I 121 96)), J, R)) rfl ?_
  refine ev_gf (c := 86) (t := 121) (X := R 86 56) rfl rfl (fun _ => rfl) rfl (hG 86 56 121 rfl rfl) ?_
  refine ev_go 2 (pc1 := 36) (lv1 := [.ref 86, .int 2, .int 22]) (st1 := [.ref 86, .int 22, .ref 121]) (h1 := (124, (uI (uI (uI (uI (uI (uI (uI (uI (uI (uI (uI (uI (uI (uI (uI (uI (uI (uI (uI (uI (uI (uI I 121 0 (I 121 75)) 121 1 (I 121 76)) 121 2 (I 121 77)) 121 3 (I 121 78)) 121 4 (I 121 79)) 121 5 (I 121 80)) 121 6 (I 121 81)) 121 7 (I 121 82)) 121 8 (I 121 83)) 121 9 (I 121 84)) 121 10 (I 121 85)) 121 11 (I 121 86)) 121 12 (I 121 87)) 121 13 (I 121 88)) 121 14 (I 121 89)) 121 15 (I 121 90)) 121 16 (I 121 91)) 121 17 (I 121 92)) 121 18 (I 121 93)) 121 19 (I 121 94)) 121 20 (I 121 95)) 121 21 (I 121 96)), J, R)) rfl ?_
  refine ev_gf (c := 86) (t := 121) (X := R 86 56) rfl rfl (fun _ => rfl) rfl (hG 86 56 121 rfl rfl) ?_
  refine ev_go 15 (pc1 := 31) (lv1 := [.ref 86, .int 2, .int 23]) (st1 := [.ref 86]) (h1 := (124, (uI (uI (uI (uI (uI (uI (uI (uI (uI (uI (uI (uI (uI (uI (uI (uI (uI (uI (uI (uI (uI (uI (uI I 121 0 (I 121 75)) 121 1 (I 121 76)) 121 2 (I 121 77)) 121 3 (I 121 78)) 121 4 (I 121 79)) 121 5 (I 121 80)) 121 6 (I 121 81)) 121 7 (I 121 82)) 121 8 (I 121 83)) 121 9 (I 121 84)) 121 10 (I 121 85)) 121 11 (I 121 86)) 121 12 (I 121 87)) 121 13 (I 121 88)) 121 14 (I 121 89)) 121 15 (I 121 90)) 121 16 (I 121 91)) 121 17 (I 121 92)) 121 18 (I 121 93)) 121 19 (I 121 94)) 121 20 (I 121 95)) 121 21 (I 121 96)) 121 22 (I 121 97)), J, R)) rfl ?_
  refine ev_gf (c := 86) (t := 121) (X := R 86 56) rfl rfl (fun _ => rfl) rfl (hG 86 56 121 rfl rfl) ?_
  refine ev_go 2 (pc1 := 36) (lv1 := [.ref 86, .int 2, .int 23]) (st1 := [.ref 86, .int 23, .ref 121]) (h1 := (124, (uI (uI (uI (uI (uI (uI (uI (uI (uI (uI (uI (uI (uI (uI (uI (uI (uI (uI (uI (uI (uI (uI (uI I 121 0 (I 121 75)) 121 1 (I 121 76)) 121 2 (I 121 77)) 121 3 (I 121 78)) 121 4 (I 121 79)) 121 5 (I 121 80)) 121 6 (I 121 81)) 121 7 (I 121 82)) 121 8 (I 121 83)) 121 9 (I 121 84)) 121 10 (I 121 85)) 121 11 (I 121 86)) 121 12 (I 121 87)) 121 13 (I 121 88)) 121 14 (I 121 89)) 121 15 (I 121 90)) 121 16 (I 121 91)) 121 17 (I 121 92)) 121 18 (I 121 93)) 121 19 (I 121 94)) 121 20 (I 121 95)) 121 21 (I 121 96)) 121 22 (I 121 97)), J, R)) rfl ?_
  refine ev_gf (c := 86) (t := 121) (X := R 86 56) rfl rfl (fun _ => rfl) rfl (hG 86 56 121 rfl rfl) ?_
  refine ev_go 15 (pc1 := 31) (lv1 := [.ref 86, .int 2, .int 24]) (st1 := [.ref 86]) (h1 := (124, (uI (uI (uI (uI (uI (uI (uI (uI (uI (uI (uI (uI (uI (uI (uI (uI (uI (uI (uI (uI (uI (uI (uI (uI I 121 0 (I 121 75)) 121 1 (I 121 76)) 121 2 (I 121 77)) 121 3 (I 121 78)) 121 4 (I 121 79)) 121 5 (I 121 80)) 121 6 (I 121 81)) 121 7 (I 121 82)) 121 8 (I 121 83)) 121 9 (I 121 84)) 121 10 (I 121 85)) 121 11 (I 121 86)) 121 12 (I 121 87)) 121 13 (I 121 88)) 121 14 (I 121 89)) 121 15 (I 121 90)) 121 16 (I 121 91)) 121 17 (I 121 92)) 121 18 (I 121 93)) 121 19 (I 121 94)) 121 20 (I 121 95)) 121 21 (I 121 96)) 121 22 (I 121 97)) 121 23 (I 121 98)), J, R)) rfl ?_
  refine ev_gf (c := 86) (t := 121) (X := R 86 56) rfl rfl (fun _ => rfl) rfl (hG 86 56 121 rfl rfl) ?_
  refine ev_go 2 (pc1 := 36) (lv1 := [.ref 86, .int 2, .int 24]) (st1 := [.ref 86, .int 24, .ref 121]) (h1 := (124, (uI (uI (uI (uI (uI (uI (uI (uI (uI (uI (uI (uI (uI (uI (uI (uI (uI (uI (uI (uI (uI (uI (uI (uI I 121 0 (I 121 75)) 121 1 (I 121 76)) 121 2 (I 121 77)) 121 3 (I 121 78)) 121 4 (I 121 79)) 121 5 (I 121 80)) 121 6 (I 121 81)) 121 7 (I 121 82)) 121 8 (I 121 83)) 121 9 (I 121 84)) 121 10 (I 121 85)) 121 11 (I 121 86)) 121 12 (I 121 87)) 121 13 (I 121 88)) 121 14 (I 121 89)) 121 15 (I 121 90)) 121 16 (I 121 91)) 121 17 (I 121 92)) 121 18 (I 121 93)) 121 19 (I 121 94)) 121 20 (I 121 95)) 121 21 (I 121 96)) 121 22 (I 121 97)) 121 23 (I 121 98)), J, R)) rfl ?_
  refine ev_gf (c := 86) (t := 121) (X := R 86 56) rfl rfl (fun _ => rfl) rfl (hG 86 56 121 rfl rfl) ?_
  refine ev_go 15 (pc1 := 56) (lv1 := [.ref 86, .int 2, .int 25]) (st1 := [.ref 86]) (h1 := (124, (uI (uI (uI (uI (uI (uI (uI (uI (uI (uI (uI (uI (uI (uI (uI (uI (uI (uI (uI (uI (uI (uI (uI (uI (uI I 121 0 (I 121 75)) 121 1 (I 121 76)) 121 2 (I 121 77)) 121 3 (I 121 78)) 121 4 (I 121 79)) 121 5 (I 121 80)) 121 6 (I 121 81)) 121 7 (I 121 82)) 121 8 (I 121 83)) 121 9 (I 121 84)) 121 10 (I 121 85)) 121 11 (I 121 86)) 121 12 (I 121 87)) 121 13 (I 121 88)) 121 14 (I 121 89)) 121 15 (I 121 90)) 121 16 (I 121 91)) 121 17 (I 121 92)) 121 18 (I 121 93)) 121 19 (I 121 94)) 121 20 (I 121 95)) 121 21 (I 121 96)) 121 22 (I 121 97)) 121 23 (I 121 98)) 121 24 (I 121 99)), J, R)) rfl ?_
  refine ev_gf (c := 86) (t := 122) (X := R 86 57) rfl rfl (fun _ => rfl) rfl (hG 86 57 122 rfl rfl) ?_
  refine ev_go 2 (pc1 := 61) (lv1 := [.ref 86, .int 2, .int 25]) (st1 := [.ref 86, .int 0, .ref 122]) (h1 := (124, (uI (uI (uI (uI (uI (uI (uI (uI (uI (uI (uI (uI (uI (uI (uI (uI (uI (uI (uI (uI (uI (uI (uI (uI (uI I 121 0 (I 121 75)) 121 1 (I 121 76)) 121 2 (I 121 77)) 121 3 (I 121 78)) 121 4 (I 121 79)) 121 5 (I 121 80)) 121 6 (I 121 81)) 121 7 (I 121 82)) 121 8 (I 121 83)) 121 9 (I 121 84)) 121 10 (I 121 85)) 121 11 (I 121 86)) 121 12 (I 121 87)) 121 13 (I 121 88)) 121 14 (I 121 89)) 121 15 (I 121 90)) 121 16 (I 121 91)) 121 17 (I 121 92)) 121 18 (I 121 93)) 121 19 (I 121 94)) 121 20 (I 121 95)) 121 21 (I 121 96)) 121 22 (I 121 97)) 121 23 (I 121 98)) 121 24 (I 121 99)), J, R)) rfl ?_
  refine ev_gf (c := 86) (t := 122) (X := R 86 57) rfl rfl (fun _ => rfl) rfl (hG 86 57 122 rfl rfl) ?_
  refine ev_go 6 (pc1 := 70) (lv1 := [.ref 86, .int 2, .int 25]) (st1 := [.ref 86]) (h1 := (124, (uI (uI (uI (uI (uI (uI (uI (uI (uI (uI (uI (uI (uI (uI (uI (uI (uI (uI (uI (uI (uI (uI (uI (uI (uI I 121 0 (I 121 75)) 121 1 (I 121 76)) 121 2 (I 121 77)) 121 3 (I 121 78)) 121 4 (I 121 79)) 121 5 (I 121 80)) 121 6 (I 121 81)) 121 7 (I 121 82)) 121 8 (I 121 83)) 121 9 (I 121 84)) 121 10 (I 121 85)) 121 11 (I 121 86)) 121 12 (I 121 87)) 121 13 (I 121 88)) 121 14 (I 121 89)) 121 15 (I 121 90)) 121 16 (I 121 91)) 121 17 (I 121 92)) 121 18 (I 121 93)) 121 19 (I 121 94)) 121 20 (I 121 95)) 121 21 (I 121 96)) 121 22 (I 121 97)) 121 23 (I 121 98)) 121 24 (I 121 99)), (uL J 122 0 (J 122 3)), R)) rfl ?_
  refine ev_gf (c := 86) (t := 121) (X := R 86 56) rfl rfl (fun _ => rfl) rfl (hG 86 56 121 rfl rfl) ?_
  refine ev_go 2 (pc1 := 75) (lv1 := [.ref 86, .int 2, .int 25]) (st1 := [.int (I 121 76)]) (h1 := (124, (uI (uI (uI (uI (uI (uI (uI (uI (uI (uI (uI (uI (uI (uI (uI (uI (uI (uI (uI (uI (uI (uI (uI (uI (uI I 121 0 (I 121 75)) 121 1 (I 121 76)) 121 2 (I 121 77)) 121 3 (I 121 78)) 121 4 (I 121 79)) 121 5 (I 121 80)) 121 6 (I 121 81)) 121 7 (I 121 82)) 121 8 (I 121 83)) 121 9 (I 121 84)) 121 10 (I 121 85)) 121 11 (I 121 86)) 121 12 (I 121 87)) 121 13 (I 121 88)) 121 14 (I 121 89)) 121 15 (I 121 90)) 121 16 (I 121 91)) 121 17 (I 121 92)) 121 18 (I 121 93)) 121 19 (I 121 94)) 121 20 (I 121 95)) 121 21 (I 121 96)) 121 22 (I 121 97)) 121 23 (I 121 98)) 121 24 (I 121 99)), (uL J 122 0 (J 122 3)), R)) rfl ?_
  exact ev_ret rfl rfl
set_option maxRecDepth 20000 in
theorem iL_0 {L : Nat} {xs : Nat → Int32} {d : Nat} {I : Nat → Nat → Int32} {J : Nat → Nat → Int64} {R : Nat → Nat → Nat} {a : Int32} (hG : aGd R) (c1 : xEv L xs d 160 0 [.int a, .int 0, .int 2] [] (124, I, J, R) (some (.int 0)) (124, I, J, R)) : xEv L xs (d + 1) 234 0 [.int a] [] (124, I, J, R) (some (.int 0)) (124, I, J, R) := by
  refine ev_go 3 (pc1 := 3) (lv1 := [.int a]) (st1 := [.int 2, .int 0, .int a]) (h1 := (124, I, J, R)) rfl ?_
  refine ev_call (v1 := (some (.int 0))) (h1 := (124, I, J, R)) rfl rfl c1 ?_
  exact ev_ret rfl rfl
/-- the run in the cells c .. is the one in the cells a .. -/
def rnEq (c a : Nat) (I' I : Nat → Nat → Int32) (J' J : Nat → Nat → Int64) : Prop := I' c 4 = I a 4 ∧ I' c 5 = I a 5 ∧ I' c 6 = I a 6 ∧ J' c 7 = J a 7 ∧ ∀ q, q < 4 → I' (c + 1) q = I (a + 1) q ∧ I' (c + 2) q = I (a + 2) q ∧ I' (c + 3) q = I (a + 3) q ∧ I' (c + 4) q = I (a + 4) q
theorem rn4 {P : Nat → Prop} (h0 : P 0) (h1 : P 1) (h2 : P 2) (h3 : P 3) : ∀ q, q < 4 → P q := by
  intro q hq
  match q, hq with
  | 0, _ => exact h0
  | 1, _ => exact h1
  | 2, _ => exact h2
  | 3, _ => exact h3
  | q + 4, h => omega
theorem isl {L : Nat} {xs : Nat → Int32} {d : Nat} {I : Nat → Nat → Int32} {J : Nat → Nat → Int64} {R : Nat → Nat → Nat} (hG : aGd R) {a : Int32} (h : ¬ (0 ≤ a.toInt ∧ a.toInt ≤ 2)) : xEv L xs (d + 1) 234 0 [.int a] [] (124, I, J, R) (some (.int 0)) (124, I, J, R) := by
  have i0 := in_ex (L := L) (xs := xs) (d := d) (I := I) (J := J) hG a 0 2
  rw [show (0 : Int32).toInt = 0 from by decide, show (2 : Int32).toInt = 2 from by decide] at i0
  rcases i0 with ⟨h1, -⟩ | ⟨-, x⟩
  · exact absurd h1 h
  · exact iL_0 hG x
theorem isl_0 {L : Nat} {xs : Nat → Int32} {d : Nat} {I : Nat → Nat → Int32} {J : Nat → Nat → Int64} {R : Nat → Nat → Nat} (hG : aGd R) : xEv L xs (d + 1) 234 0 [.int 0] [] (124, I, J, R) (some (.int 1)) (124, I, J, R) := by
  rcases in_ex (L := L) (xs := xs) (d := d) (I := I) (J := J) hG 0 0 2 with ⟨-, x⟩ | ⟨h, -⟩
  · exact iL_1_0 hG x
  · exact absurd h (by decide)
theorem kx_0 {L : Nat} {xs : Nat → Int32} {d : Nat} {I : Nat → Nat → Int32} {J : Nat → Nat → Int64} {R : Nat → Nat → Nat} (hG : aGd R) (h4 : I 66 4 = 1) : ∃ (I' : Nat → Nat → Int32) (J' : Nat → Nat → Int64), xEv L xs (d + 2) 135 0 [.ref 0, .int 0, xmk] [] (124, I, J, R) (some (.int (I 66 5))) (124, I', J', R) ∧ rnEq 71 66 I' I J' J ∧ rnEq 66 66 I' I J' J ∧ rnEq 76 76 I' I J' J ∧ rnEq 81 81 I' I J' J ∧ True := by
  refine ⟨_, _, kX_r0 hG (by rw [h4]; decide) (sA_0 hG) (cf_k0 hG (Or.inr h4)), ⟨rfl, rfl, rfl, rfl, rn4 ⟨rfl, rfl, rfl, rfl⟩ ⟨rfl, rfl, rfl, rfl⟩ ⟨rfl, rfl, rfl, rfl⟩ ⟨rfl, rfl, rfl, rfl⟩⟩, ⟨rfl, rfl, rfl, rfl, rn4 ⟨rfl, rfl, rfl, rfl⟩ ⟨rfl, rfl, rfl, rfl⟩ ⟨rfl, rfl, rfl, rfl⟩ ⟨rfl, rfl, rfl, rfl⟩⟩, ⟨rfl, rfl, rfl, rfl, rn4 ⟨rfl, rfl, rfl, rfl⟩ ⟨rfl, rfl, rfl, rfl⟩ ⟨rfl, rfl, rfl, rfl⟩ ⟨rfl, rfl, rfl, rfl⟩⟩, ⟨rfl, rfl, rfl, rfl, rn4 ⟨rfl, rfl, rfl, rfl⟩ ⟨rfl, rfl, rfl, rfl⟩ ⟨rfl, rfl, rfl, rfl⟩ ⟨rfl, rfl, rfl, rfl⟩⟩, trivial⟩
theorem tx_0 {L : Nat} {xs : Nat → Int32} {d : Nat} {I : Nat → Nat → Int32} {J : Nat → Nat → Int64} {R : Nat → Nat → Nat} (hG : aGd R) (h4 : I 71 4 = 1) : ∃ (I' : Nat → Nat → Int32) (J' : Nat → Nat → Int64), xEv L xs (d + 2) 138 0 [.ref 0, .int 0, xmk] [] (124, I, J, R) (some (.int (I 71 5))) (124, I', J', R) ∧ rnEq 66 71 I' I J' J ∧ rnEq 71 71 I' I J' J ∧ rnEq 76 76 I' I J' J ∧ rnEq 81 81 I' I J' J := by
  refine ⟨_, _, tX_r0 hG (sA_0 hG) (by rw [h4]; decide) (cf_t0 hG (Or.inr h4)), ⟨rfl, rfl, rfl, rfl, rn4 ⟨rfl, rfl, rfl, rfl⟩ ⟨rfl, rfl, rfl, rfl⟩ ⟨rfl, rfl, rfl, rfl⟩ ⟨rfl, rfl, rfl, rfl⟩⟩, ⟨rfl, rfl, rfl, rfl, rn4 ⟨rfl, rfl, rfl, rfl⟩ ⟨rfl, rfl, rfl, rfl⟩ ⟨rfl, rfl, rfl, rfl⟩ ⟨rfl, rfl, rfl, rfl⟩⟩, ⟨rfl, rfl, rfl, rfl, rn4 ⟨rfl, rfl, rfl, rfl⟩ ⟨rfl, rfl, rfl, rfl⟩ ⟨rfl, rfl, rfl, rfl⟩ ⟨rfl, rfl, rfl, rfl⟩⟩, ⟨rfl, rfl, rfl, rfl, rn4 ⟨rfl, rfl, rfl, rfl⟩ ⟨rfl, rfl, rfl, rfl⟩ ⟨rfl, rfl, rfl, rfl⟩ ⟨rfl, rfl, rfl, rfl⟩⟩⟩
set_option maxRecDepth 4000 in
theorem km_0 {L : Nat} {xs : Nat → Int32} {d : Nat} {I : Nat → Nat → Int32} {J : Nat → Nat → Int64} {R : Nat → Nat → Nat} (hG : aGd R) (h4 : (I 121 0).toInt ≠ 0) : ∃ (I' : Nat → Nat → Int32) (J' : Nat → Nat → Int64), xEv L xs (d + 2) 233 0 [.ref 86, .int 0, xmk] [] (124, I, J, R) (some (.int (I 121 1))) (124, I', J', R) ∧ I' 123 0 = 1 ∧ (J' 122 0 = J 122 0 ∧ J' 122 1 = J 122 0 ∧ J' 122 2 = J 122 2 ∧ J' 122 3 = J 122 3) ∧ (I' 123 1 = I 123 1 ∧ I' 123 2 = I 123 2) ∧ ∀ q, q < 100 → I' 121 q = if 25 ≤ q ∧ q < 25 + 25 then I 121 (q - 25) else I 121 q := by
  refine ⟨_, _, kM_r0 hG (isl_0 hG) h4, rfl, ⟨rfl, rfl, rfl, rfl⟩, ⟨rfl, rfl⟩, ?_⟩
  intro q hq
  match q, hq with
    | 0, _ => rfl
    | 1, _ => rfl
    | 2, _ => rfl
    | 3, _ => rfl
    | 4, _ => rfl
    | 5, _ => rfl
    | 6, _ => rfl
    | 7, _ => rfl
    | 8, _ => rfl
    | 9, _ => rfl
    | 10, _ => rfl
    | 11, _ => rfl
    | 12, _ => rfl
    | 13, _ => rfl
    | 14, _ => rfl
    | 15, _ => rfl
    | 16, _ => rfl
    | 17, _ => rfl
    | 18, _ => rfl
    | 19, _ => rfl
    | 20, _ => rfl
    | 21, _ => rfl
    | 22, _ => rfl
    | 23, _ => rfl
    | 24, _ => rfl
    | 25, _ => rfl
    | 26, _ => rfl
    | 27, _ => rfl
    | 28, _ => rfl
    | 29, _ => rfl
    | 30, _ => rfl
    | 31, _ => rfl
    | 32, _ => rfl
    | 33, _ => rfl
    | 34, _ => rfl
    | 35, _ => rfl
    | 36, _ => rfl
    | 37, _ => rfl
    | 38, _ => rfl
    | 39, _ => rfl
    | 40, _ => rfl
    | 41, _ => rfl
    | 42, _ => rfl
    | 43, _ => rfl
    | 44, _ => rfl
    | 45, _ => rfl
    | 46, _ => rfl
    | 47, _ => rfl
    | 48, _ => rfl
    | 49, _ => rfl
    | 50, _ => rfl
    | 51, _ => rfl
    | 52, _ => rfl
    | 53, _ => rfl
    | 54, _ => rfl
    | 55, _ => rfl
    | 56, _ => rfl
    | 57, _ => rfl
    | 58, _ => rfl
    | 59, _ => rfl
    | 60, _ => rfl
    | 61, _ => rfl
    | 62, _ => rfl
    | 63, _ => rfl
    | 64, _ => rfl
    | 65, _ => rfl
    | 66, _ => rfl
    | 67, _ => rfl
    | 68, _ => rfl
    | 69, _ => rfl
    | 70, _ => rfl
    | 71, _ => rfl
    | 72, _ => rfl
    | 73, _ => rfl
    | 74, _ => rfl
    | 75, _ => rfl
    | 76, _ => rfl
    | 77, _ => rfl
    | 78, _ => rfl
    | 79, _ => rfl
    | 80, _ => rfl
    | 81, _ => rfl
    | 82, _ => rfl
    | 83, _ => rfl
    | 84, _ => rfl
    | 85, _ => rfl
    | 86, _ => rfl
    | 87, _ => rfl
    | 88, _ => rfl
    | 89, _ => rfl
    | 90, _ => rfl
    | 91, _ => rfl
    | 92, _ => rfl
    | 93, _ => rfl
    | 94, _ => rfl
    | 95, _ => rfl
    | 96, _ => rfl
    | 97, _ => rfl
    | 98, _ => rfl
    | 99, _ => rfl
    | q + 100, h => omega
set_option maxRecDepth 4000 in
theorem tm_0 {L : Nat} {xs : Nat → Int32} {d : Nat} {I : Nat → Nat → Int32} {J : Nat → Nat → Int64} {R : Nat → Nat → Nat} (hG : aGd R) (h4 : (I 123 0).toInt ≠ 0) : ∃ (I' : Nat → Nat → Int32) (J' : Nat → Nat → Int64), xEv L xs (d + 2) 235 0 [.ref 86, .int 0, xmk] [] (124, I, J, R) (some (.int (I 121 26))) (124, I', J', R) ∧ (J' 122 0 = J 122 1 ∧ J' 122 1 = J 122 1 ∧ J' 122 2 = J 122 2 ∧ J' 122 3 = J 122 3) ∧ (∀ q, I' 123 q = I 123 q) ∧ ∀ q, q < 100 → I' 121 q = if q < 25 then I 121 (25 + q) else I 121 q := by
  refine ⟨_, _, tM_r0 hG (isl_0 hG) h4, ⟨rfl, rfl, rfl, rfl⟩, fun _ => rfl, ?_⟩
  intro q hq
  match q, hq with
    | 0, _ => rfl
    | 1, _ => rfl
    | 2, _ => rfl
    | 3, _ => rfl
    | 4, _ => rfl
    | 5, _ => rfl
    | 6, _ => rfl
    | 7, _ => rfl
    | 8, _ => rfl
    | 9, _ => rfl
    | 10, _ => rfl
    | 11, _ => rfl
    | 12, _ => rfl
    | 13, _ => rfl
    | 14, _ => rfl
    | 15, _ => rfl
    | 16, _ => rfl
    | 17, _ => rfl
    | 18, _ => rfl
    | 19, _ => rfl
    | 20, _ => rfl
    | 21, _ => rfl
    | 22, _ => rfl
    | 23, _ => rfl
    | 24, _ => rfl
    | 25, _ => rfl
    | 26, _ => rfl
    | 27, _ => rfl
    | 28, _ => rfl
    | 29, _ => rfl
    | 30, _ => rfl
    | 31, _ => rfl
    | 32, _ => rfl
    | 33, _ => rfl
    | 34, _ => rfl
    | 35, _ => rfl
    | 36, _ => rfl
    | 37, _ => rfl
    | 38, _ => rfl
    | 39, _ => rfl
    | 40, _ => rfl
    | 41, _ => rfl
    | 42, _ => rfl
    | 43, _ => rfl
    | 44, _ => rfl
    | 45, _ => rfl
    | 46, _ => rfl
    | 47, _ => rfl
    | 48, _ => rfl
    | 49, _ => rfl
    | 50, _ => rfl
    | 51, _ => rfl
    | 52, _ => rfl
    | 53, _ => rfl
    | 54, _ => rfl
    | 55, _ => rfl
    | 56, _ => rfl
    | 57, _ => rfl
    | 58, _ => rfl
    | 59, _ => rfl
    | 60, _ => rfl
    | 61, _ => rfl
    | 62, _ => rfl
    | 63, _ => rfl
    | 64, _ => rfl
    | 65, _ => rfl
    | 66, _ => rfl
    | 67, _ => rfl
    | 68, _ => rfl
    | 69, _ => rfl
    | 70, _ => rfl
    | 71, _ => rfl
    | 72, _ => rfl
    | 73, _ => rfl
    | 74, _ => rfl
    | 75, _ => rfl
    | 76, _ => rfl
    | 77, _ => rfl
    | 78, _ => rfl
    | 79, _ => rfl
    | 80, _ => rfl
    | 81, _ => rfl
    | 82, _ => rfl
    | 83, _ => rfl
    | 84, _ => rfl
    | 85, _ => rfl
    | 86, _ => rfl
    | 87, _ => rfl
    | 88, _ => rfl
    | 89, _ => rfl
    | 90, _ => rfl
    | 91, _ => rfl
    | 92, _ => rfl
    | 93, _ => rfl
    | 94, _ => rfl
    | 95, _ => rfl
    | 96, _ => rfl
    | 97, _ => rfl
    | 98, _ => rfl
    | 99, _ => rfl
    | q + 100, h => omega
theorem isl_1 {L : Nat} {xs : Nat → Int32} {d : Nat} {I : Nat → Nat → Int32} {J : Nat → Nat → Int64} {R : Nat → Nat → Nat} (hG : aGd R) : xEv L xs (d + 1) 234 0 [.int 1] [] (124, I, J, R) (some (.int 1)) (124, I, J, R) := by
  rcases in_ex (L := L) (xs := xs) (d := d) (I := I) (J := J) hG 1 0 2 with ⟨-, x⟩ | ⟨h, -⟩
  · exact iL_1_1 hG x
  · exact absurd h (by decide)
theorem kx_1 {L : Nat} {xs : Nat → Int32} {d : Nat} {I : Nat → Nat → Int32} {J : Nat → Nat → Int64} {R : Nat → Nat → Nat} (hG : aGd R) (h4 : I 66 4 = 1) : ∃ (I' : Nat → Nat → Int32) (J' : Nat → Nat → Int64), xEv L xs (d + 2) 135 0 [.ref 0, .int 1, xmk] [] (124, I, J, R) (some (.int (I 66 5))) (124, I', J', R) ∧ rnEq 76 66 I' I J' J ∧ rnEq 66 66 I' I J' J ∧ rnEq 71 71 I' I J' J ∧ rnEq 81 81 I' I J' J ∧ True := by
  refine ⟨_, _, kX_r1 hG (by rw [h4]; decide) (sA_1 hG) (cf_k1 hG (Or.inr h4)), ⟨rfl, rfl, rfl, rfl, rn4 ⟨rfl, rfl, rfl, rfl⟩ ⟨rfl, rfl, rfl, rfl⟩ ⟨rfl, rfl, rfl, rfl⟩ ⟨rfl, rfl, rfl, rfl⟩⟩, ⟨rfl, rfl, rfl, rfl, rn4 ⟨rfl, rfl, rfl, rfl⟩ ⟨rfl, rfl, rfl, rfl⟩ ⟨rfl, rfl, rfl, rfl⟩ ⟨rfl, rfl, rfl, rfl⟩⟩, ⟨rfl, rfl, rfl, rfl, rn4 ⟨rfl, rfl, rfl, rfl⟩ ⟨rfl, rfl, rfl, rfl⟩ ⟨rfl, rfl, rfl, rfl⟩ ⟨rfl, rfl, rfl, rfl⟩⟩, ⟨rfl, rfl, rfl, rfl, rn4 ⟨rfl, rfl, rfl, rfl⟩ ⟨rfl, rfl, rfl, rfl⟩ ⟨rfl, rfl, rfl, rfl⟩ ⟨rfl, rfl, rfl, rfl⟩⟩, trivial⟩
theorem tx_1 {L : Nat} {xs : Nat → Int32} {d : Nat} {I : Nat → Nat → Int32} {J : Nat → Nat → Int64} {R : Nat → Nat → Nat} (hG : aGd R) (h4 : I 76 4 = 1) : ∃ (I' : Nat → Nat → Int32) (J' : Nat → Nat → Int64), xEv L xs (d + 2) 138 0 [.ref 0, .int 1, xmk] [] (124, I, J, R) (some (.int (I 76 5))) (124, I', J', R) ∧ rnEq 66 76 I' I J' J ∧ rnEq 71 71 I' I J' J ∧ rnEq 76 76 I' I J' J ∧ rnEq 81 81 I' I J' J := by
  refine ⟨_, _, tX_r1 hG (sA_1 hG) (by rw [h4]; decide) (cf_t1 hG (Or.inr h4)), ⟨rfl, rfl, rfl, rfl, rn4 ⟨rfl, rfl, rfl, rfl⟩ ⟨rfl, rfl, rfl, rfl⟩ ⟨rfl, rfl, rfl, rfl⟩ ⟨rfl, rfl, rfl, rfl⟩⟩, ⟨rfl, rfl, rfl, rfl, rn4 ⟨rfl, rfl, rfl, rfl⟩ ⟨rfl, rfl, rfl, rfl⟩ ⟨rfl, rfl, rfl, rfl⟩ ⟨rfl, rfl, rfl, rfl⟩⟩, ⟨rfl, rfl, rfl, rfl, rn4 ⟨rfl, rfl, rfl, rfl⟩ ⟨rfl, rfl, rfl, rfl⟩ ⟨rfl, rfl, rfl, rfl⟩ ⟨rfl, rfl, rfl, rfl⟩⟩, ⟨rfl, rfl, rfl, rfl, rn4 ⟨rfl, rfl, rfl, rfl⟩ ⟨rfl, rfl, rfl, rfl⟩ ⟨rfl, rfl, rfl, rfl⟩ ⟨rfl, rfl, rfl, rfl⟩⟩⟩
set_option maxRecDepth 4000 in
theorem km_1 {L : Nat} {xs : Nat → Int32} {d : Nat} {I : Nat → Nat → Int32} {J : Nat → Nat → Int64} {R : Nat → Nat → Nat} (hG : aGd R) (h4 : (I 121 0).toInt ≠ 0) : ∃ (I' : Nat → Nat → Int32) (J' : Nat → Nat → Int64), xEv L xs (d + 2) 233 0 [.ref 86, .int 1, xmk] [] (124, I, J, R) (some (.int (I 121 1))) (124, I', J', R) ∧ I' 123 1 = 1 ∧ (J' 122 0 = J 122 0 ∧ J' 122 2 = J 122 0 ∧ J' 122 1 = J 122 1 ∧ J' 122 3 = J 122 3) ∧ (I' 123 0 = I 123 0 ∧ I' 123 2 = I 123 2) ∧ ∀ q, q < 100 → I' 121 q = if 50 ≤ q ∧ q < 50 + 25 then I 121 (q - 50) else I 121 q := by
  refine ⟨_, _, kM_r1 hG (isl_1 hG) h4, rfl, ⟨rfl, rfl, rfl, rfl⟩, ⟨rfl, rfl⟩, ?_⟩
  intro q hq
  match q, hq with
    | 0, _ => rfl
    | 1, _ => rfl
    | 2, _ => rfl
    | 3, _ => rfl
    | 4, _ => rfl
    | 5, _ => rfl
    | 6, _ => rfl
    | 7, _ => rfl
    | 8, _ => rfl
    | 9, _ => rfl
    | 10, _ => rfl
    | 11, _ => rfl
    | 12, _ => rfl
    | 13, _ => rfl
    | 14, _ => rfl
    | 15, _ => rfl
    | 16, _ => rfl
    | 17, _ => rfl
    | 18, _ => rfl
    | 19, _ => rfl
    | 20, _ => rfl
    | 21, _ => rfl
    | 22, _ => rfl
    | 23, _ => rfl
    | 24, _ => rfl
    | 25, _ => rfl
    | 26, _ => rfl
    | 27, _ => rfl
    | 28, _ => rfl
    | 29, _ => rfl
    | 30, _ => rfl
    | 31, _ => rfl
    | 32, _ => rfl
    | 33, _ => rfl
    | 34, _ => rfl
    | 35, _ => rfl
    | 36, _ => rfl
    | 37, _ => rfl
    | 38, _ => rfl
    | 39, _ => rfl
    | 40, _ => rfl
    | 41, _ => rfl
    | 42, _ => rfl
    | 43, _ => rfl
    | 44, _ => rfl
    | 45, _ => rfl
    | 46, _ => rfl
    | 47, _ => rfl
    | 48, _ => rfl
    | 49, _ => rfl
    | 50, _ => rfl
    | 51, _ => rfl
    | 52, _ => rfl
    | 53, _ => rfl
    | 54, _ => rfl
    | 55, _ => rfl
    | 56, _ => rfl
    | 57, _ => rfl
    | 58, _ => rfl
    | 59, _ => rfl
    | 60, _ => rfl
    | 61, _ => rfl
    | 62, _ => rfl
    | 63, _ => rfl
    | 64, _ => rfl
    | 65, _ => rfl
    | 66, _ => rfl
    | 67, _ => rfl
    | 68, _ => rfl
    | 69, _ => rfl
    | 70, _ => rfl
    | 71, _ => rfl
    | 72, _ => rfl
    | 73, _ => rfl
    | 74, _ => rfl
    | 75, _ => rfl
    | 76, _ => rfl
    | 77, _ => rfl
    | 78, _ => rfl
    | 79, _ => rfl
    | 80, _ => rfl
    | 81, _ => rfl
    | 82, _ => rfl
    | 83, _ => rfl
    | 84, _ => rfl
    | 85, _ => rfl
    | 86, _ => rfl
    | 87, _ => rfl
    | 88, _ => rfl
    | 89, _ => rfl
    | 90, _ => rfl
    | 91, _ => rfl
    | 92, _ => rfl
    | 93, _ => rfl
    | 94, _ => rfl
    | 95, _ => rfl
    | 96, _ => rfl
    | 97, _ => rfl
    | 98, _ => rfl
    | 99, _ => rfl
    | q + 100, h => omega
set_option maxRecDepth 4000 in
theorem tm_1 {L : Nat} {xs : Nat → Int32} {d : Nat} {I : Nat → Nat → Int32} {J : Nat → Nat → Int64} {R : Nat → Nat → Nat} (hG : aGd R) (h4 : (I 123 1).toInt ≠ 0) : ∃ (I' : Nat → Nat → Int32) (J' : Nat → Nat → Int64), xEv L xs (d + 2) 235 0 [.ref 86, .int 1, xmk] [] (124, I, J, R) (some (.int (I 121 51))) (124, I', J', R) ∧ (J' 122 0 = J 122 2 ∧ J' 122 1 = J 122 1 ∧ J' 122 2 = J 122 2 ∧ J' 122 3 = J 122 3) ∧ (∀ q, I' 123 q = I 123 q) ∧ ∀ q, q < 100 → I' 121 q = if q < 25 then I 121 (50 + q) else I 121 q := by
  refine ⟨_, _, tM_r1 hG (isl_1 hG) h4, ⟨rfl, rfl, rfl, rfl⟩, fun _ => rfl, ?_⟩
  intro q hq
  match q, hq with
    | 0, _ => rfl
    | 1, _ => rfl
    | 2, _ => rfl
    | 3, _ => rfl
    | 4, _ => rfl
    | 5, _ => rfl
    | 6, _ => rfl
    | 7, _ => rfl
    | 8, _ => rfl
    | 9, _ => rfl
    | 10, _ => rfl
    | 11, _ => rfl
    | 12, _ => rfl
    | 13, _ => rfl
    | 14, _ => rfl
    | 15, _ => rfl
    | 16, _ => rfl
    | 17, _ => rfl
    | 18, _ => rfl
    | 19, _ => rfl
    | 20, _ => rfl
    | 21, _ => rfl
    | 22, _ => rfl
    | 23, _ => rfl
    | 24, _ => rfl
    | 25, _ => rfl
    | 26, _ => rfl
    | 27, _ => rfl
    | 28, _ => rfl
    | 29, _ => rfl
    | 30, _ => rfl
    | 31, _ => rfl
    | 32, _ => rfl
    | 33, _ => rfl
    | 34, _ => rfl
    | 35, _ => rfl
    | 36, _ => rfl
    | 37, _ => rfl
    | 38, _ => rfl
    | 39, _ => rfl
    | 40, _ => rfl
    | 41, _ => rfl
    | 42, _ => rfl
    | 43, _ => rfl
    | 44, _ => rfl
    | 45, _ => rfl
    | 46, _ => rfl
    | 47, _ => rfl
    | 48, _ => rfl
    | 49, _ => rfl
    | 50, _ => rfl
    | 51, _ => rfl
    | 52, _ => rfl
    | 53, _ => rfl
    | 54, _ => rfl
    | 55, _ => rfl
    | 56, _ => rfl
    | 57, _ => rfl
    | 58, _ => rfl
    | 59, _ => rfl
    | 60, _ => rfl
    | 61, _ => rfl
    | 62, _ => rfl
    | 63, _ => rfl
    | 64, _ => rfl
    | 65, _ => rfl
    | 66, _ => rfl
    | 67, _ => rfl
    | 68, _ => rfl
    | 69, _ => rfl
    | 70, _ => rfl
    | 71, _ => rfl
    | 72, _ => rfl
    | 73, _ => rfl
    | 74, _ => rfl
    | 75, _ => rfl
    | 76, _ => rfl
    | 77, _ => rfl
    | 78, _ => rfl
    | 79, _ => rfl
    | 80, _ => rfl
    | 81, _ => rfl
    | 82, _ => rfl
    | 83, _ => rfl
    | 84, _ => rfl
    | 85, _ => rfl
    | 86, _ => rfl
    | 87, _ => rfl
    | 88, _ => rfl
    | 89, _ => rfl
    | 90, _ => rfl
    | 91, _ => rfl
    | 92, _ => rfl
    | 93, _ => rfl
    | 94, _ => rfl
    | 95, _ => rfl
    | 96, _ => rfl
    | 97, _ => rfl
    | 98, _ => rfl
    | 99, _ => rfl
    | q + 100, h => omega
theorem isl_2 {L : Nat} {xs : Nat → Int32} {d : Nat} {I : Nat → Nat → Int32} {J : Nat → Nat → Int64} {R : Nat → Nat → Nat} (hG : aGd R) : xEv L xs (d + 1) 234 0 [.int 2] [] (124, I, J, R) (some (.int 1)) (124, I, J, R) := by
  rcases in_ex (L := L) (xs := xs) (d := d) (I := I) (J := J) hG 2 0 2 with ⟨-, x⟩ | ⟨h, -⟩
  · exact iL_1_2 hG x
  · exact absurd h (by decide)
theorem kx_2 {L : Nat} {xs : Nat → Int32} {d : Nat} {I : Nat → Nat → Int32} {J : Nat → Nat → Int64} {R : Nat → Nat → Nat} (hG : aGd R) (h4 : I 66 4 = 1) : ∃ (I' : Nat → Nat → Int32) (J' : Nat → Nat → Int64), xEv L xs (d + 2) 135 0 [.ref 0, .int 2, xmk] [] (124, I, J, R) (some (.int (I 66 5))) (124, I', J', R) ∧ rnEq 81 66 I' I J' J ∧ rnEq 66 66 I' I J' J ∧ rnEq 71 71 I' I J' J ∧ rnEq 76 76 I' I J' J ∧ True := by
  refine ⟨_, _, kX_r2 hG (by rw [h4]; decide) (sA_2 hG) (cf_k2 hG (Or.inr h4)), ⟨rfl, rfl, rfl, rfl, rn4 ⟨rfl, rfl, rfl, rfl⟩ ⟨rfl, rfl, rfl, rfl⟩ ⟨rfl, rfl, rfl, rfl⟩ ⟨rfl, rfl, rfl, rfl⟩⟩, ⟨rfl, rfl, rfl, rfl, rn4 ⟨rfl, rfl, rfl, rfl⟩ ⟨rfl, rfl, rfl, rfl⟩ ⟨rfl, rfl, rfl, rfl⟩ ⟨rfl, rfl, rfl, rfl⟩⟩, ⟨rfl, rfl, rfl, rfl, rn4 ⟨rfl, rfl, rfl, rfl⟩ ⟨rfl, rfl, rfl, rfl⟩ ⟨rfl, rfl, rfl, rfl⟩ ⟨rfl, rfl, rfl, rfl⟩⟩, ⟨rfl, rfl, rfl, rfl, rn4 ⟨rfl, rfl, rfl, rfl⟩ ⟨rfl, rfl, rfl, rfl⟩ ⟨rfl, rfl, rfl, rfl⟩ ⟨rfl, rfl, rfl, rfl⟩⟩, trivial⟩
theorem tx_2 {L : Nat} {xs : Nat → Int32} {d : Nat} {I : Nat → Nat → Int32} {J : Nat → Nat → Int64} {R : Nat → Nat → Nat} (hG : aGd R) (h4 : I 81 4 = 1) : ∃ (I' : Nat → Nat → Int32) (J' : Nat → Nat → Int64), xEv L xs (d + 2) 138 0 [.ref 0, .int 2, xmk] [] (124, I, J, R) (some (.int (I 81 5))) (124, I', J', R) ∧ rnEq 66 81 I' I J' J ∧ rnEq 71 71 I' I J' J ∧ rnEq 76 76 I' I J' J ∧ rnEq 81 81 I' I J' J := by
  refine ⟨_, _, tX_r2 hG (sA_2 hG) (by rw [h4]; decide) (cf_t2 hG (Or.inr h4)), ⟨rfl, rfl, rfl, rfl, rn4 ⟨rfl, rfl, rfl, rfl⟩ ⟨rfl, rfl, rfl, rfl⟩ ⟨rfl, rfl, rfl, rfl⟩ ⟨rfl, rfl, rfl, rfl⟩⟩, ⟨rfl, rfl, rfl, rfl, rn4 ⟨rfl, rfl, rfl, rfl⟩ ⟨rfl, rfl, rfl, rfl⟩ ⟨rfl, rfl, rfl, rfl⟩ ⟨rfl, rfl, rfl, rfl⟩⟩, ⟨rfl, rfl, rfl, rfl, rn4 ⟨rfl, rfl, rfl, rfl⟩ ⟨rfl, rfl, rfl, rfl⟩ ⟨rfl, rfl, rfl, rfl⟩ ⟨rfl, rfl, rfl, rfl⟩⟩, ⟨rfl, rfl, rfl, rfl, rn4 ⟨rfl, rfl, rfl, rfl⟩ ⟨rfl, rfl, rfl, rfl⟩ ⟨rfl, rfl, rfl, rfl⟩ ⟨rfl, rfl, rfl, rfl⟩⟩⟩
set_option maxRecDepth 4000 in
theorem km_2 {L : Nat} {xs : Nat → Int32} {d : Nat} {I : Nat → Nat → Int32} {J : Nat → Nat → Int64} {R : Nat → Nat → Nat} (hG : aGd R) (h4 : (I 121 0).toInt ≠ 0) : ∃ (I' : Nat → Nat → Int32) (J' : Nat → Nat → Int64), xEv L xs (d + 2) 233 0 [.ref 86, .int 2, xmk] [] (124, I, J, R) (some (.int (I 121 1))) (124, I', J', R) ∧ I' 123 2 = 1 ∧ (J' 122 0 = J 122 0 ∧ J' 122 3 = J 122 0 ∧ J' 122 1 = J 122 1 ∧ J' 122 2 = J 122 2) ∧ (I' 123 0 = I 123 0 ∧ I' 123 1 = I 123 1) ∧ ∀ q, q < 100 → I' 121 q = if 75 ≤ q ∧ q < 75 + 25 then I 121 (q - 75) else I 121 q := by
  refine ⟨_, _, kM_r2 hG (isl_2 hG) h4, rfl, ⟨rfl, rfl, rfl, rfl⟩, ⟨rfl, rfl⟩, ?_⟩
  intro q hq
  match q, hq with
    | 0, _ => rfl
    | 1, _ => rfl
    | 2, _ => rfl
    | 3, _ => rfl
    | 4, _ => rfl
    | 5, _ => rfl
    | 6, _ => rfl
    | 7, _ => rfl
    | 8, _ => rfl
    | 9, _ => rfl
    | 10, _ => rfl
    | 11, _ => rfl
    | 12, _ => rfl
    | 13, _ => rfl
    | 14, _ => rfl
    | 15, _ => rfl
    | 16, _ => rfl
    | 17, _ => rfl
    | 18, _ => rfl
    | 19, _ => rfl
    | 20, _ => rfl
    | 21, _ => rfl
    | 22, _ => rfl
    | 23, _ => rfl
    | 24, _ => rfl
    | 25, _ => rfl
    | 26, _ => rfl
    | 27, _ => rfl
    | 28, _ => rfl
    | 29, _ => rfl
    | 30, _ => rfl
    | 31, _ => rfl
    | 32, _ => rfl
    | 33, _ => rfl
    | 34, _ => rfl
    | 35, _ => rfl
    | 36, _ => rfl
    | 37, _ => rfl
    | 38, _ => rfl
    | 39, _ => rfl
    | 40, _ => rfl
    | 41, _ => rfl
    | 42, _ => rfl
    | 43, _ => rfl
    | 44, _ => rfl
    | 45, _ => rfl
    | 46, _ => rfl
    | 47, _ => rfl
    | 48, _ => rfl
    | 49, _ => rfl
    | 50, _ => rfl
    | 51, _ => rfl
    | 52, _ => rfl
    | 53, _ => rfl
    | 54, _ => rfl
    | 55, _ => rfl
    | 56, _ => rfl
    | 57, _ => rfl
    | 58, _ => rfl
    | 59, _ => rfl
    | 60, _ => rfl
    | 61, _ => rfl
    | 62, _ => rfl
    | 63, _ => rfl
    | 64, _ => rfl
    | 65, _ => rfl
    | 66, _ => rfl
    | 67, _ => rfl
    | 68, _ => rfl
    | 69, _ => rfl
    | 70, _ => rfl
    | 71, _ => rfl
    | 72, _ => rfl
    | 73, _ => rfl
    | 74, _ => rfl
    | 75, _ => rfl
    | 76, _ => rfl
    | 77, _ => rfl
    | 78, _ => rfl
    | 79, _ => rfl
    | 80, _ => rfl
    | 81, _ => rfl
    | 82, _ => rfl
    | 83, _ => rfl
    | 84, _ => rfl
    | 85, _ => rfl
    | 86, _ => rfl
    | 87, _ => rfl
    | 88, _ => rfl
    | 89, _ => rfl
    | 90, _ => rfl
    | 91, _ => rfl
    | 92, _ => rfl
    | 93, _ => rfl
    | 94, _ => rfl
    | 95, _ => rfl
    | 96, _ => rfl
    | 97, _ => rfl
    | 98, _ => rfl
    | 99, _ => rfl
    | q + 100, h => omega
set_option maxRecDepth 4000 in
theorem tm_2 {L : Nat} {xs : Nat → Int32} {d : Nat} {I : Nat → Nat → Int32} {J : Nat → Nat → Int64} {R : Nat → Nat → Nat} (hG : aGd R) (h4 : (I 123 2).toInt ≠ 0) : ∃ (I' : Nat → Nat → Int32) (J' : Nat → Nat → Int64), xEv L xs (d + 2) 235 0 [.ref 86, .int 2, xmk] [] (124, I, J, R) (some (.int (I 121 76))) (124, I', J', R) ∧ (J' 122 0 = J 122 3 ∧ J' 122 1 = J 122 1 ∧ J' 122 2 = J 122 2 ∧ J' 122 3 = J 122 3) ∧ (∀ q, I' 123 q = I 123 q) ∧ ∀ q, q < 100 → I' 121 q = if q < 25 then I 121 (75 + q) else I 121 q := by
  refine ⟨_, _, tM_r2 hG (isl_2 hG) h4, ⟨rfl, rfl, rfl, rfl⟩, fun _ => rfl, ?_⟩
  intro q hq
  match q, hq with
    | 0, _ => rfl
    | 1, _ => rfl
    | 2, _ => rfl
    | 3, _ => rfl
    | 4, _ => rfl
    | 5, _ => rfl
    | 6, _ => rfl
    | 7, _ => rfl
    | 8, _ => rfl
    | 9, _ => rfl
    | 10, _ => rfl
    | 11, _ => rfl
    | 12, _ => rfl
    | 13, _ => rfl
    | 14, _ => rfl
    | 15, _ => rfl
    | 16, _ => rfl
    | 17, _ => rfl
    | 18, _ => rfl
    | 19, _ => rfl
    | 20, _ => rfl
    | 21, _ => rfl
    | 22, _ => rfl
    | 23, _ => rfl
    | 24, _ => rfl
    | 25, _ => rfl
    | 26, _ => rfl
    | 27, _ => rfl
    | 28, _ => rfl
    | 29, _ => rfl
    | 30, _ => rfl
    | 31, _ => rfl
    | 32, _ => rfl
    | 33, _ => rfl
    | 34, _ => rfl
    | 35, _ => rfl
    | 36, _ => rfl
    | 37, _ => rfl
    | 38, _ => rfl
    | 39, _ => rfl
    | 40, _ => rfl
    | 41, _ => rfl
    | 42, _ => rfl
    | 43, _ => rfl
    | 44, _ => rfl
    | 45, _ => rfl
    | 46, _ => rfl
    | 47, _ => rfl
    | 48, _ => rfl
    | 49, _ => rfl
    | 50, _ => rfl
    | 51, _ => rfl
    | 52, _ => rfl
    | 53, _ => rfl
    | 54, _ => rfl
    | 55, _ => rfl
    | 56, _ => rfl
    | 57, _ => rfl
    | 58, _ => rfl
    | 59, _ => rfl
    | 60, _ => rfl
    | 61, _ => rfl
    | 62, _ => rfl
    | 63, _ => rfl
    | 64, _ => rfl
    | 65, _ => rfl
    | 66, _ => rfl
    | 67, _ => rfl
    | 68, _ => rfl
    | 69, _ => rfl
    | 70, _ => rfl
    | 71, _ => rfl
    | 72, _ => rfl
    | 73, _ => rfl
    | 74, _ => rfl
    | 75, _ => rfl
    | 76, _ => rfl
    | 77, _ => rfl
    | 78, _ => rfl
    | 79, _ => rfl
    | 80, _ => rfl
    | 81, _ => rfl
    | 82, _ => rfl
    | 83, _ => rfl
    | 84, _ => rfl
    | 85, _ => rfl
    | 86, _ => rfl
    | 87, _ => rfl
    | 88, _ => rfl
    | 89, _ => rfl
    | 90, _ => rfl
    | 91, _ => rfl
    | 92, _ => rfl
    | 93, _ => rfl
    | 94, _ => rfl
    | 95, _ => rfl
    | 96, _ => rfl
    | 97, _ => rfl
    | 98, _ => rfl
    | 99, _ => rfl
    | q + 100, h => omega
