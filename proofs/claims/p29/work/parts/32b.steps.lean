theorem inj_rv {a b : Int32} (h : some (Value.int a) = some (Value.int b)) : a = b := by
  injection h with h
  injection h
theorem inj_hI {I I' : Nat → Nat → Int32} {J J' : Nat → Nat → Int64} {R R' : Nat → Nat → Nat} (h : ((124, I, J, R) : xH) = (124, I', J', R')) : I = I' := by
  cases h
  rfl
theorem inj_hJ {I I' : Nat → Nat → Int32} {J J' : Nat → Nat → Int64} {R R' : Nat → Nat → Nat} (h : ((124, I, J, R) : xH) = (124, I', J', R')) : J = J' := by
  cases h
  rfl
/-- a run of both as to whether it is and which time comes: the class's cell c, the reference's place o, its flag f -/
def rnC (c o : Nat) (f : Int32) (I : Nat → Nat → Int32) : Prop := (I c 4 = 0 ∧ f = 0) ∨ (I c 4 = 1 ∧ f = 1 ∧ I 121 o = 1 ∧ I c 5 = I 121 (o + 1))
def lwN (I : Nat → Nat → Int32) : Prop := rnC 66 0 (I 121 0) I ∧ rnC 71 25 (I 123 0) I ∧ rnC 76 50 (I 123 1) I ∧ rnC 81 75 (I 123 2) I
/-- what is judged of both -/
def lwJ (I : Nat → Nat → Int32) : Prop := jdS (I 88 2).toNatClampNeg I
/-- what is believed of both -/
def lwB (I : Nat → Nat → Int32) : Prop := blS I I
def lwA (I : Nat → Nat → Int32) (J : Nat → Nat → Int64) (R : Nat → Nat → Nat) : Prop := lwI I R ∧ lwN I ∧ lwJ I ∧ lwB I
def kpB (m : Nat) : Bool := [118, 257, 121, 300].all (kpP m)
theorem lwB_e {I I1 : Nat → Nat → Int32} (h1 : I1 49 3 = I 49 3) (h2 : I1 86 51 = I 86 51) (h3 : ∀ q, I1 52 q = I 52 q) (h4 : ∀ q, I1 117 q = I 117 q) (hB : lwB I) : lwB I1 := by
  unfold lwB blS at *
  rw [h1, h2, h3, h3, h4, h4]
  exact hB
theorem lwB_k {m : Nat} {I I1 : Nat → Nat → Int32} {J J1 : Nat → Nat → Int64} {R R1 : Nat → Nat → Nat} (f : aFr m (124, I, J, R) (124, I1, J1, R1)) (h : kpB m = true) (hB : lwB I) : lwB I1 :=
  lwB_e (kp_i f (c := 49) (k := 3) (p := 118) rfl (kp_m h rfl)) (kp_i f (c := 86) (k := 51) (p := 257) rfl (kp_m h rfl)) (fun q => kp_i f (c := 52) (k := q) (p := 121) rfl (kp_m h rfl)) (fun q => kp_i f (c := 117) (k := q) (p := 300) rfl (kp_m h rfl)) hB
def kpJ (m : Nat) : Bool := [110, 241, 113, 114, 289, 290, 268].all (kpP m)
theorem lwJ_e {I I1 : Nat → Nat → Int32} (h1 : I1 44 5 = I 44 5) (h2 : I1 86 35 = I 86 35) (h3 : ∀ q, I1 47 q = I 47 q ∧ I1 48 q = I 48 q ∧ I1 106 q = I 106 q ∧ I1 107 q = I 107 q) (h4 : I1 88 2 = I 88 2) (hJ : lwJ I) : lwJ I1 := by
  unfold lwJ jdS at *
  rw [h1, h2, h4]
  rcases hJ with hJ | ⟨j1, j2, j3⟩
  · exact Or.inl hJ
  · refine Or.inr ⟨j1, j2, fun q hq => ?_⟩
    obtain ⟨a1, a2, a3, a4⟩ := h3 q
    rw [a1, a2, a3, a4]
    exact j3 q hq
theorem lwJ_k {m : Nat} {I I1 : Nat → Nat → Int32} {J J1 : Nat → Nat → Int64} {R R1 : Nat → Nat → Nat} (f : aFr m (124, I, J, R) (124, I1, J1, R1)) (h : kpJ m = true) (hJ : lwJ I) : lwJ I1 :=
  lwJ_e (kp_i f (c := 44) (k := 5) (p := 110) rfl (kp_m h rfl)) (kp_i f (c := 86) (k := 35) (p := 241) rfl (kp_m h rfl)) (fun q => ⟨kp_i f (c := 47) (k := q) (p := 113) rfl (kp_m h rfl), kp_i f (c := 48) (k := q) (p := 114) rfl (kp_m h rfl), kp_i f (c := 106) (k := q) (p := 289) rfl (kp_m h rfl), kp_i f (c := 107) (k := q) (p := 290) rfl (kp_m h rfl)⟩) (kp_i f (c := 88) (k := 2) (p := 268) rfl (kp_m h rfl)) hJ
def kpN (m : Nat) : Bool := [162, 163, 174, 175, 186, 187, 198, 199, 304, 305, 329, 330, 354, 355, 379, 380, 405].all (kpP m)
theorem lwN_e {I I1 : Nat → Nat → Int32} (h : ∀ c q, (((c = 66 ∨ c = 71 ∨ c = 76 ∨ c = 81) ∧ (q = 4 ∨ q = 5)) ∨ (c = 121 ∧ (q = 0 ∨ q = 1 ∨ q = 25 ∨ q = 26 ∨ q = 50 ∨ q = 51 ∨ q = 75 ∨ q = 76)) ∨ (c = 123 ∧ q < 3)) → I1 c q = I c q) (hN : lwN I) : lwN I1 := by
  unfold lwN rnC at *
  rw [h 66 4 (by omega), h 66 5 (by omega), h 71 4 (by omega), h 71 5 (by omega), h 76 4 (by omega), h 76 5 (by omega), h 81 4 (by omega), h 81 5 (by omega), h 121 0 (by omega), h 121 (0 + 1) (by omega), h 121 25 (by omega), h 121 (25 + 1) (by omega), h 121 50 (by omega), h 121 (50 + 1) (by omega), h 121 75 (by omega), h 121 (75 + 1) (by omega), h 123 0 (by omega), h 123 1 (by omega), h 123 2 (by omega)]
  exact hN
theorem lwN_k {m : Nat} {I I1 : Nat → Nat → Int32} {J J1 : Nat → Nat → Int64} {R R1 : Nat → Nat → Nat} (f : aFr m (124, I, J, R) (124, I1, J1, R1)) (h : kpN m = true) (hN : lwN I) : lwN I1 := by
  refine lwN_e (fun c q hc => ?_) hN
  rcases hc with ⟨rfl | rfl | rfl | rfl, rfl | rfl⟩ | ⟨rfl, rfl | rfl | rfl | rfl | rfl | rfl | rfl | rfl⟩ | ⟨rfl, hq⟩
  · exact kp_i f (c := 66) (k := 4) (p := 162) rfl (kp_m h rfl)
  · exact kp_i f (c := 66) (k := 5) (p := 163) rfl (kp_m h rfl)
  · exact kp_i f (c := 71) (k := 4) (p := 174) rfl (kp_m h rfl)
  · exact kp_i f (c := 71) (k := 5) (p := 175) rfl (kp_m h rfl)
  · exact kp_i f (c := 76) (k := 4) (p := 186) rfl (kp_m h rfl)
  · exact kp_i f (c := 76) (k := 5) (p := 187) rfl (kp_m h rfl)
  · exact kp_i f (c := 81) (k := 4) (p := 198) rfl (kp_m h rfl)
  · exact kp_i f (c := 81) (k := 5) (p := 199) rfl (kp_m h rfl)
  · exact kp_i f (c := 121) (k := 0) (p := 304) rfl (kp_m h rfl)
  · exact kp_i f (c := 121) (k := 1) (p := 305) rfl (kp_m h rfl)
  · exact kp_i f (c := 121) (k := 25) (p := 329) rfl (kp_m h rfl)
  · exact kp_i f (c := 121) (k := 26) (p := 330) rfl (kp_m h rfl)
  · exact kp_i f (c := 121) (k := 50) (p := 354) rfl (kp_m h rfl)
  · exact kp_i f (c := 121) (k := 51) (p := 355) rfl (kp_m h rfl)
  · exact kp_i f (c := 121) (k := 75) (p := 379) rfl (kp_m h rfl)
  · exact kp_i f (c := 121) (k := 76) (p := 380) rfl (kp_m h rfl)
  · have hq' : q = 0 ∨ q = 1 ∨ q = 2 := by omega
    rcases hq' with rfl | rfl | rfl
    · exact kp_i f (c := 123) (k := 0) (p := 405) rfl (kp_m h rfl)
    · exact kp_i f (c := 123) (k := 1) (p := 405) rfl (kp_m h rfl)
    · exact kp_i f (c := 123) (k := 2) (p := 405) rfl (kp_m h rfl)
def kpS (m : Nat) : Bool := [174, 175, 186, 187, 198, 199, 329, 330, 354, 355, 379, 380, 405].all (kpP m)
def slP (c q : Nat) : Prop := ((c = 71 ∨ c = 76 ∨ c = 81) ∧ (q = 4 ∨ q = 5)) ∨ (c = 121 ∧ (q = 25 ∨ q = 26 ∨ q = 50 ∨ q = 51 ∨ q = 75 ∨ q = 76)) ∨ (c = 123 ∧ q < 3)
theorem slt_k {m : Nat} {I I1 : Nat → Nat → Int32} {J J1 : Nat → Nat → Int64} {R R1 : Nat → Nat → Nat} (f : aFr m (124, I, J, R) (124, I1, J1, R1)) (h : kpS m = true) : ∀ c q, slP c q → I1 c q = I c q := by
  intro c q hc
  unfold slP at hc
  rcases hc with ⟨rfl | rfl | rfl, rfl | rfl⟩ | ⟨rfl, rfl | rfl | rfl | rfl | rfl | rfl⟩ | ⟨rfl, hq⟩
  · exact kp_i f (c := 71) (k := 4) (p := 174) rfl (kp_m h rfl)
  · exact kp_i f (c := 71) (k := 5) (p := 175) rfl (kp_m h rfl)
  · exact kp_i f (c := 76) (k := 4) (p := 186) rfl (kp_m h rfl)
  · exact kp_i f (c := 76) (k := 5) (p := 187) rfl (kp_m h rfl)
  · exact kp_i f (c := 81) (k := 4) (p := 198) rfl (kp_m h rfl)
  · exact kp_i f (c := 81) (k := 5) (p := 199) rfl (kp_m h rfl)
  · exact kp_i f (c := 121) (k := 25) (p := 329) rfl (kp_m h rfl)
  · exact kp_i f (c := 121) (k := 26) (p := 330) rfl (kp_m h rfl)
  · exact kp_i f (c := 121) (k := 50) (p := 354) rfl (kp_m h rfl)
  · exact kp_i f (c := 121) (k := 51) (p := 355) rfl (kp_m h rfl)
  · exact kp_i f (c := 121) (k := 75) (p := 379) rfl (kp_m h rfl)
  · exact kp_i f (c := 121) (k := 76) (p := 380) rfl (kp_m h rfl)
  · have hq' : q = 0 ∨ q = 1 ∨ q = 2 := by omega
    rcases hq' with rfl | rfl | rfl
    · exact kp_i f (c := 123) (k := 0) (p := 405) rfl (kp_m h rfl)
    · exact kp_i f (c := 123) (k := 1) (p := 405) rfl (kp_m h rfl)
    · exact kp_i f (c := 123) (k := 2) (p := 405) rfl (kp_m h rfl)
theorem lwN_s {I I1 : Nat → Nat → Int32} (h : ∀ c q, slP c q → I1 c q = I c q) (h0 : rnC 66 0 (I1 121 0) I1) (hN : lwN I) : lwN I1 := by
  unfold slP at h
  obtain ⟨-, n1, n2, n3⟩ := hN
  refine ⟨h0, ?_, ?_, ?_⟩
  · unfold rnC at *
    rw [h 71 4 (by omega), h 71 5 (by omega), h 121 25 (by omega), h 121 (25 + 1) (by omega), h 123 0 (by omega)]
    exact n1
  · unfold rnC at *
    rw [h 76 4 (by omega), h 76 5 (by omega), h 121 50 (by omega), h 121 (50 + 1) (by omega), h 123 1 (by omega)]
    exact n2
  · unfold rnC at *
    rw [h 81 4 (by omega), h 81 5 (by omega), h 121 75 (by omega), h 121 (75 + 1) (by omega), h 123 2 (by omega)]
    exact n3
theorem kp_c121 {m : Nat} {I I1 : Nat → Nat → Int32} {J J1 : Nat → Nat → Int64} {R R1 : Nat → Nat → Nat} (f : aFr m (124, I, J, R) (124, I1, J1, R1)) (h : ((List.range 100).map (fun q => 304 + q)).all (kpP m) = true) : ∀ q, q < 100 → I1 121 q = I 121 q := by
  intro q hq
  exact kp_i f (c := 121) (k := q) (p := 304 + q) rfl (List.all_eq_true.mp h _ (List.mem_map.mpr ⟨q, List.mem_range.mpr hq, rfl⟩))
theorem kp_cr {m : Nat} {I I1 : Nat → Nat → Int32} {J J1 : Nat → Nat → Int64} {R R1 : Nat → Nat → Nat} (f : aFr m (124, I, J, R) (124, I1, J1, R1)) (h : [162, 163, 174, 175, 186, 187, 198, 199].all (kpP m) = true) : ∀ c q, (c = 66 ∨ c = 71 ∨ c = 76 ∨ c = 81) → (q = 4 ∨ q = 5) → I1 c q = I c q := by
  intro c q hc hq
  rcases hc with rfl | rfl | rfl | rfl <;> rcases hq with rfl | rfl
  · exact kp_i f (c := 66) (k := 4) (p := 162) rfl (kp_m h rfl)
  · exact kp_i f (c := 66) (k := 5) (p := 163) rfl (kp_m h rfl)
  · exact kp_i f (c := 71) (k := 4) (p := 174) rfl (kp_m h rfl)
  · exact kp_i f (c := 71) (k := 5) (p := 175) rfl (kp_m h rfl)
  · exact kp_i f (c := 76) (k := 4) (p := 186) rfl (kp_m h rfl)
  · exact kp_i f (c := 76) (k := 5) (p := 187) rfl (kp_m h rfl)
  · exact kp_i f (c := 81) (k := 4) (p := 198) rfl (kp_m h rfl)
  · exact kp_i f (c := 81) (k := 5) (p := 199) rfl (kp_m h rfl)
theorem sqm_feed {L : Nat} {xs : Nat → Int32} {I : Nat → Nat → Int32} {J : Nat → Nat → Int64} {R : Nat → Nat → Nat} (hg : aGood (124, I, J, R)) (hT : lwA I J R) (a1 a2 a3 a4 a5 : Int32) : ∃ (r1 r2 : Int32) (I1 I2 : Nat → Nat → Int32) (J1 J2 : Nat → Nat → Int64) (R1 R2 : Nat → Nat → Nat), xEv L xs 19 14 0 [.ref 0, .int a1, .int a2, .int a3, .int a4, .int a5] [] (124, I, J, R) (some (.int r1)) (124, I1, J1, R1) ∧ xEv L xs 19 145 0 [.ref 86, .int a1, .int a2, .int a3, .int a4, .int a5, xmk, xmk, xmk] [] (124, I1, J1, R1) (some (.int r2)) (124, I2, J2, R2) ∧ aGood (124, I1, J1, R1) ∧ aGood (124, I2, J2, R2) ∧ lwA I2 J2 R2 ∧ r2 = r1 := by
  obtain ⟨r1, r2, I1, I2, J1, J2, R1, R2, c1, c2, g1, g2, hT2, e⟩ := sp_feed (L := L) (xs := xs) hg hT.1 a1 a2 a3 a4 a5
  obtain ⟨r1', I1', J1', R1', c1', g1', f1, cs1, m1, q1⟩ := api (ol_533 113 (by decide)) (by decide) (L := L) (xs := xs) (d := 19) (vs := [.ref 0, .int a1, .int a2, .int a3, .int a4, .int a5]) (by decide) hg ⟨g0_r (by decide), g0_i (aw _).1 (aw _).2, g0_i (aw _).1 (aw _).2, g0_i (aw _).1 (aw _).2, g0_i (aw _).1 (aw _).2, g0_i (aw _).1 (aw _).2, rfl⟩ rfl
  obtain ⟨y1, z1⟩ := ev_det c1 c1'
  cases y1
  cases z1
  obtain ⟨r2', I2', J2', R2', c2', g2', f2, cs2, m2, q2⟩ := api (ol_533 114 (by decide)) (by decide) (L := L) (xs := xs) (d := 19) (vs := [.ref 86, .int a1, .int a2, .int a3, .int a4, .int a5]) (by decide) g1 ⟨g0_r (by decide), g0_i (aw _).1 (aw _).2, g0_i (aw _).1 (aw _).2, g0_i (aw _).1 (aw _).2, g0_i (aw _).1 (aw _).2, g0_i (aw _).1 (aw _).2, rfl⟩ rfl
  obtain ⟨y2, z2⟩ := ev_det c2 c2'
  cases y2
  cases z2
  exact ⟨r1, r2, I1, I2, J1, J2, R1, R2, c1, c2, g1, g2, ⟨hT2, lwN_k f2 rfl (lwN_k f1 rfl hT.2.1), lwJ_k f2 rfl (lwJ_k f1 rfl hT.2.2.1), lwB_k f2 rfl (lwB_k f1 rfl hT.2.2.2)⟩, e⟩
theorem sqm_end {L : Nat} {xs : Nat → Int32} {I : Nat → Nat → Int32} {J : Nat → Nat → Int64} {R : Nat → Nat → Nat} (hg : aGood (124, I, J, R)) (hT : lwA I J R) (a1 : Int32) : ∃ (r1 r2 : Int32) (I1 I2 : Nat → Nat → Int32) (J1 J2 : Nat → Nat → Int64) (R1 R2 : Nat → Nat → Nat), xEv L xs 19 16 0 [.ref 0, .int a1] [] (124, I, J, R) (some (.int r1)) (124, I1, J1, R1) ∧ xEv L xs 19 146 0 [.ref 86, .int a1] [] (124, I1, J1, R1) (some (.int r2)) (124, I2, J2, R2) ∧ aGood (124, I1, J1, R1) ∧ aGood (124, I2, J2, R2) ∧ lwA I2 J2 R2 ∧ r2 = r1 := by
  obtain ⟨r1, r2, I1, I2, J1, J2, R1, R2, c1, c2, g1, g2, hT2, e⟩ := sp_end (L := L) (xs := xs) hg hT.1 a1
  obtain ⟨r1', I1', J1', R1', c1', g1', f1, cs1, m1, q1⟩ := api (ol_533 115 (by decide)) (by decide) (L := L) (xs := xs) (d := 19) (vs := [.ref 0, .int a1]) (by decide) hg ⟨g0_r (by decide), g0_i (aw _).1 (aw _).2, rfl⟩ rfl
  obtain ⟨y1, z1⟩ := ev_det c1 c1'
  cases y1
  cases z1
  obtain ⟨r2', I2', J2', R2', c2', g2', f2, cs2, m2, q2⟩ := api (ol_533 116 (by decide)) (by decide) (L := L) (xs := xs) (d := 19) (vs := [.ref 86, .int a1]) (by decide) g1 ⟨g0_r (by decide), g0_i (aw _).1 (aw _).2, rfl⟩ rfl
  obtain ⟨y2, z2⟩ := ev_det c2 c2'
  cases y2
  cases z2
  exact ⟨r1, r2, I1, I2, J1, J2, R1, R2, c1, c2, g1, g2, ⟨hT2, lwN_k f2 rfl (lwN_k f1 rfl hT.2.1), lwJ_k f2 rfl (lwJ_k f1 rfl hT.2.2.1), lwB_k f2 rfl (lwB_k f1 rfl hT.2.2.2)⟩, e⟩
theorem sqm_village {L : Nat} {xs : Nat → Int32} {I : Nat → Nat → Int32} {J : Nat → Nat → Int64} {R : Nat → Nat → Nat} (hg : aGood (124, I, J, R)) (hT : lwA I J R) : ∃ (r1 r2 : Int32) (I1 I2 : Nat → Nat → Int32) (J1 J2 : Nat → Nat → Int64) (R1 R2 : Nat → Nat → Nat), xEv L xs 19 17 0 [.ref 0, xmk, xmk] [] (124, I, J, R) (some (.int r1)) (124, I1, J1, R1) ∧ xEv L xs 19 148 0 [.ref 86, xmk] [] (124, I1, J1, R1) (some (.int r2)) (124, I2, J2, R2) ∧ aGood (124, I1, J1, R1) ∧ aGood (124, I2, J2, R2) ∧ lwA I2 J2 R2 ∧ r2 = r1 := by
  obtain ⟨r1, r2, I1, I2, J1, J2, R1, R2, c1, c2, g1, g2, hT2, e⟩ := sp_village (L := L) (xs := xs) hg hT.1
  obtain ⟨r1', I1', J1', R1', c1', g1', f1, cs1, m1, q1⟩ := api (ol_533 305 (by decide)) (by decide) (L := L) (xs := xs) (d := 19) (vs := [.ref 0]) (by decide) hg ⟨g0_r (by decide), rfl⟩ rfl
  obtain ⟨y1, z1⟩ := ev_det c1 c1'
  cases y1
  cases z1
  obtain ⟨r2', I2', J2', R2', c2', g2', f2, cs2, m2, q2⟩ := api (ol_533 333 (by decide)) (by decide) (L := L) (xs := xs) (d := 19) (vs := [.ref 86]) (by decide) g1 ⟨g0_r (by decide), rfl⟩ rfl
  obtain ⟨y2, z2⟩ := ev_det c2 c2'
  cases y2
  cases z2
  have b1 := good_int hg 1 1 rfl
  have b2 : (aRng 1 1) = (0, 900) := rfl
  rw [b2] at b1
  dsimp only at b1
  obtain ⟨n, hn⟩ := Int.eq_ofNat_of_zero_le b1.1
  have hn' : (I 1 1).toInt = n := hn
  have p1 : I1 86 1 = I 86 1 := fr_int f1 86 1 rfl
  have p2 : ∀ q, I1 87 q = I 87 q := fun q => kp_i f1 (c := 87) (k := q) (p := 265) rfl (by decide)
  have hb : bM I1 n = bX I n := by
    funext q
    unfold bM bX
    by_cases h : q < n
    · rw [if_pos h, if_pos h, p2]
      exact hT.1.1.2 q (by omega)
    · rw [if_neg h, if_neg h]
  have hm' : (I1 86 1).toInt = n := by rw [p1, ← hT.1.1.1]; exact hn
  obtain ⟨⟨hT1, ⟨np0, nm0, nn0, l0, hV⟩, hK, hF⟩, hN, hJ, hBl⟩ := hT
  refine ⟨r1, r2, I1, I2, J1, J2, R1, R2, c1, c2, g1, g2, ⟨hT2, ?_⟩, e⟩
  rcases hV with ⟨h8, h9, hV⟩ | ⟨h8, h9, hV⟩
  · rcases vil_23 (L := L) (xs := xs) (d := 11) (d' := 13) (Jc := J) (Jr := J1) (gd_of hg) h9 h8 (gd_of g1) (by decide) (by omega) hn' hm' hb with ⟨Ic, Ir, Jc, Jr, x1, x2, u8, u9, fr, fc⟩ | ⟨mm, Ic, Ir, Jc, Jr, np, nm, nn, l, x1, x2, u8, u9, hV2, -, k2, k3, k4, k5, fc, fr, -⟩
    · have eI1 : I1 = uI Ic 1 1 0 := congrArg (fun h : xH => h.2.1) (ev_det c1 x1).2
      have eI2 : I2 = Ir := congrArg (fun h : xH => h.2.1) (ev_det c2 x2).2
      have w : ∀ c q, c ≠ 1 → ¬ (23 ≤ c ∧ c ≤ 37) → c ≠ 43 → ¬ (c = 86 ∧ q ≤ 11) → ¬ (c = 88 ∧ 3 ≤ q) → ¬ (90 ≤ c ∧ c ≤ 100) → I2 c q = I c q := fun c q t1 t2 t3 t4 t5 t6 => by rw [eI2, fr c q (by omega) (by omega) (by omega) (by omega) (by omega), eI1, uI_n _ _ (by omega)]; exact fc c q (by omega) (by omega) (by omega)
      refine ⟨lwN_e (fun c q hc => w c q (by omega) (by omega) (by omega) (by omega) (by omega) (by omega)) hN, lwJ_e (w _ _ (by omega) (by omega) (by omega) (by omega) (by omega) (by omega)) (w _ _ (by omega) (by omega) (by omega) (by omega) (by omega) (by omega)) (fun q => ⟨w _ _ (by omega) (by omega) (by omega) (by omega) (by omega) (by omega), w _ _ (by omega) (by omega) (by omega) (by omega) (by omega) (by omega), w _ _ (by omega) (by omega) (by omega) (by omega) (by omega) (by omega), w _ _ (by omega) (by omega) (by omega) (by omega) (by omega) (by omega)⟩) (w _ _ (by omega) (by omega) (by omega) (by omega) (by omega) (by omega)) hJ, lwB_e (w _ _ (by omega) (by omega) (by omega) (by omega) (by omega) (by omega)) (w _ _ (by omega) (by omega) (by omega) (by omega) (by omega) (by omega)) (fun q => w _ _ (by omega) (by omega) (by omega) (by omega) (by omega) (by omega)) (fun q => w _ _ (by omega) (by omega) (by omega) (by omega) (by omega) (by omega)) hBl⟩
    · have eI1 : I1 = _ := congrArg (fun h : xH => h.2.1) (ev_det c1 x1).2
      have eI2 : I2 = Ir := congrArg (fun h : xH => h.2.1) (ev_det c2 x2).2
      have w2 : ∀ c q, c < 86 → I2 c q = I1 c q := fun c q t1 => by rw [eI2]; exact fr c q (by omega) (by omega) (by omega) (by omega)
      refine ⟨⟨Or.inl ⟨by rw [w2 66 4 (by omega), eI1]; rfl, by rw [eI2]; exact k2⟩, Or.inl ⟨by rw [w2 71 4 (by omega), eI1]; rfl, by rw [eI2]; exact k3 0 (by omega)⟩, Or.inl ⟨by rw [w2 76 4 (by omega), eI1]; rfl, by rw [eI2]; exact k3 1 (by omega)⟩, Or.inl ⟨by rw [w2 81 4 (by omega), eI1]; rfl, by rw [eI2]; exact k3 2 (by omega)⟩⟩, Or.inl ⟨by rw [w2 44 5 (by omega), eI1]; rfl, by rw [eI2]; exact k4⟩, Or.inl ⟨by rw [w2 49 3 (by omega), eI1]; rfl, by rw [eI2]; exact k5⟩⟩
  · rcases vil_3 (L := L) (xs := xs) (d := 11) (d' := 13) (Jc := J) (Jr := J1) (gd_of hg) h9 h8 (gd_of g1) (by decide) (by omega) hn' hm' hb with ⟨Ic, Ir, Jc, Jr, x1, x2, u8, u9, fr, fc⟩ | ⟨mm, Ic, Ir, Jc, Jr, np, nm, nn, l, x1, x2, u8, u9, hV2, -, k2, k3, k4, k5, fc, fr, -⟩
    · have eI1 : I1 = uI Ic 1 1 0 := congrArg (fun h : xH => h.2.1) (ev_det c1 x1).2
      have eI2 : I2 = Ir := congrArg (fun h : xH => h.2.1) (ev_det c2 x2).2
      have w : ∀ c q, c ≠ 1 → ¬ (3 ≤ c ∧ c ≤ 17) → c ≠ 43 → ¬ (c = 86 ∧ q ≤ 11) → ¬ (c = 88 ∧ 3 ≤ q) → ¬ (90 ≤ c ∧ c ≤ 100) → I2 c q = I c q := fun c q t1 t2 t3 t4 t5 t6 => by rw [eI2, fr c q (by omega) (by omega) (by omega) (by omega) (by omega), eI1, uI_n _ _ (by omega)]; exact fc c q (by omega) (by omega) (by omega)
      refine ⟨lwN_e (fun c q hc => w c q (by omega) (by omega) (by omega) (by omega) (by omega) (by omega)) hN, lwJ_e (w _ _ (by omega) (by omega) (by omega) (by omega) (by omega) (by omega)) (w _ _ (by omega) (by omega) (by omega) (by omega) (by omega) (by omega)) (fun q => ⟨w _ _ (by omega) (by omega) (by omega) (by omega) (by omega) (by omega), w _ _ (by omega) (by omega) (by omega) (by omega) (by omega) (by omega), w _ _ (by omega) (by omega) (by omega) (by omega) (by omega) (by omega), w _ _ (by omega) (by omega) (by omega) (by omega) (by omega) (by omega)⟩) (w _ _ (by omega) (by omega) (by omega) (by omega) (by omega) (by omega)) hJ, lwB_e (w _ _ (by omega) (by omega) (by omega) (by omega) (by omega) (by omega)) (w _ _ (by omega) (by omega) (by omega) (by omega) (by omega) (by omega)) (fun q => w _ _ (by omega) (by omega) (by omega) (by omega) (by omega) (by omega)) (fun q => w _ _ (by omega) (by omega) (by omega) (by omega) (by omega) (by omega)) hBl⟩
    · have eI1 : I1 = _ := congrArg (fun h : xH => h.2.1) (ev_det c1 x1).2
      have eI2 : I2 = Ir := congrArg (fun h : xH => h.2.1) (ev_det c2 x2).2
      have w2 : ∀ c q, c < 86 → I2 c q = I1 c q := fun c q t1 => by rw [eI2]; exact fr c q (by omega) (by omega) (by omega) (by omega)
      refine ⟨⟨Or.inl ⟨by rw [w2 66 4 (by omega), eI1]; rfl, by rw [eI2]; exact k2⟩, Or.inl ⟨by rw [w2 71 4 (by omega), eI1]; rfl, by rw [eI2]; exact k3 0 (by omega)⟩, Or.inl ⟨by rw [w2 76 4 (by omega), eI1]; rfl, by rw [eI2]; exact k3 1 (by omega)⟩, Or.inl ⟨by rw [w2 81 4 (by omega), eI1]; rfl, by rw [eI2]; exact k3 2 (by omega)⟩⟩, Or.inl ⟨by rw [w2 44 5 (by omega), eI1]; rfl, by rw [eI2]; exact k4⟩, Or.inl ⟨by rw [w2 49 3 (by omega), eI1]; rfl, by rw [eI2]; exact k5⟩⟩
theorem sqm_fault {L : Nat} {xs : Nat → Int32} {I : Nat → Nat → Int32} {J : Nat → Nat → Int64} {R : Nat → Nat → Nat} (hg : aGood (124, I, J, R)) (hT : lwA I J R) (a1 : Int32) : ∃ (r1 r2 : Int32) (I1 I2 : Nat → Nat → Int32) (J1 J2 : Nat → Nat → Int64) (R1 R2 : Nat → Nat → Nat), xEv L xs 19 47 0 [.ref 0, .int a1] [] (124, I, J, R) (some (.int r1)) (124, I1, J1, R1) ∧ xEv L xs 19 147 0 [.ref 86, .int a1] [] (124, I1, J1, R1) (some (.int r2)) (124, I2, J2, R2) ∧ aGood (124, I1, J1, R1) ∧ aGood (124, I2, J2, R2) ∧ lwA I2 J2 R2 ∧ r2 = r1 := by
  obtain ⟨r1, r2, I1, I2, J1, J2, R1, R2, c1, c2, g1, g2, hT2, e⟩ := sp_fault (L := L) (xs := xs) hg hT.1 a1
  obtain ⟨r1', I1', J1', R1', c1', g1', f1, cs1, m1, q1⟩ := api (ol_533 334 (by decide)) (by decide) (L := L) (xs := xs) (d := 19) (vs := [.ref 0, .int a1]) (by decide) hg ⟨g0_r (by decide), g0_i (aw _).1 (aw _).2, rfl⟩ rfl
  obtain ⟨y1, z1⟩ := ev_det c1 c1'
  cases y1
  cases z1
  obtain ⟨r2', I2', J2', R2', c2', g2', f2, cs2, m2, q2⟩ := api (ol_533 335 (by decide)) (by decide) (L := L) (xs := xs) (d := 19) (vs := [.ref 86, .int a1]) (by decide) g1 ⟨g0_r (by decide), g0_i (aw _).1 (aw _).2, rfl⟩ rfl
  obtain ⟨y2, z2⟩ := ev_det c2 c2'
  cases y2
  cases z2
  exact ⟨r1, r2, I1, I2, J1, J2, R1, R2, c1, c2, g1, g2, ⟨hT2, lwN_k f2 rfl (lwN_k f1 rfl hT.2.1), lwJ_k f2 rfl (lwJ_k f1 rfl hT.2.2.1), lwB_k f2 rfl (lwB_k f1 rfl hT.2.2.2)⟩, e⟩
theorem sqm_told {L : Nat} {xs : Nat → Int32} {I : Nat → Nat → Int32} {J : Nat → Nat → Int64} {R : Nat → Nat → Nat} (hg : aGood (124, I, J, R)) (hT : lwA I J R) (a1 : Int32) : ∃ (r1 r2 : Int32) (I1 I2 : Nat → Nat → Int32) (J1 J2 : Nat → Nat → Int64) (R1 R2 : Nat → Nat → Nat), xEv L xs 19 48 0 [.ref 0, .int a1, xmk] [] (124, I, J, R) (some (.int r1)) (124, I1, J1, R1) ∧ xEv L xs 19 166 0 [.ref 86, .int a1, xmk] [] (124, I1, J1, R1) (some (.int r2)) (124, I2, J2, R2) ∧ aGood (124, I1, J1, R1) ∧ aGood (124, I2, J2, R2) ∧ lwA I2 J2 R2 ∧ r2 = r1 := by
  obtain ⟨r1, r2, I1, I2, J1, J2, R1, R2, c1, c2, g1, g2, hT2, e⟩ := sp_told (L := L) (xs := xs) hg hT.1 a1
  obtain ⟨r1', I1', J1', R1', c1', g1', f1, cs1, m1, q1⟩ := api (ol_533 347 (by decide)) (by decide) (L := L) (xs := xs) (d := 19) (vs := [.ref 0, .int a1]) (by decide) hg ⟨g0_r (by decide), g0_i (aw _).1 (aw _).2, rfl⟩ rfl
  obtain ⟨y1, z1⟩ := ev_det c1 c1'
  cases y1
  cases z1
  obtain ⟨r2', I2', J2', R2', c2', g2', f2, cs2, m2, q2⟩ := api (ol_533 352 (by decide)) (by decide) (L := L) (xs := xs) (d := 19) (vs := [.ref 86, .int a1]) (by decide) g1 ⟨g0_r (by decide), g0_i (aw _).1 (aw _).2, rfl⟩ rfl
  obtain ⟨y2, z2⟩ := ev_det c2 c2'
  cases y2
  cases z2
  exact ⟨r1, r2, I1, I2, J1, J2, R1, R2, c1, c2, g1, g2, ⟨hT2, lwN_k f2 rfl (lwN_k f1 rfl hT.2.1), lwJ_k f2 rfl (lwJ_k f1 rfl hT.2.2.1), lwB_k f2 rfl (lwB_k f1 rfl hT.2.2.2)⟩, e⟩
theorem sqm_meeting {L : Nat} {xs : Nat → Int32} {I : Nat → Nat → Int32} {J : Nat → Nat → Int64} {R : Nat → Nat → Nat} (hg : aGood (124, I, J, R)) (hT : lwA I J R) (a1 a2 : Int32) : ∃ (r1 r2 : Int32) (I1 I2 : Nat → Nat → Int32) (J1 J2 : Nat → Nat → Int64) (R1 R2 : Nat → Nat → Nat), xEv L xs 19 51 0 [.ref 0, .int a1, .int a2] [] (124, I, J, R) (some (.int r1)) (124, I1, J1, R1) ∧ xEv L xs 19 169 0 [.ref 86, .int a1, .int a2] [] (124, I1, J1, R1) (some (.int r2)) (124, I2, J2, R2) ∧ aGood (124, I1, J1, R1) ∧ aGood (124, I2, J2, R2) ∧ lwA I2 J2 R2 ∧ r2 = r1 := by
  obtain ⟨r1, r2, I1, I2, J1, J2, R1, R2, c1, c2, g1, g2, hT2, e⟩ := sp_meeting (L := L) (xs := xs) hg hT.1 a1 a2
  obtain ⟨r1', I1', J1', R1', c1', g1', f1, cs1, m1, q1⟩ := api (ol_533 357 (by decide)) (by decide) (L := L) (xs := xs) (d := 19) (vs := [.ref 0, .int a1, .int a2]) (by decide) hg ⟨g0_r (by decide), g0_i (aw _).1 (aw _).2, g0_i (aw _).1 (aw _).2, rfl⟩ rfl
  obtain ⟨y1, z1⟩ := ev_det c1 c1'
  cases y1
  cases z1
  obtain ⟨r2', I2', J2', R2', c2', g2', f2, cs2, m2, q2⟩ := api (ol_533 359 (by decide)) (by decide) (L := L) (xs := xs) (d := 19) (vs := [.ref 86, .int a1, .int a2]) (by decide) g1 ⟨g0_r (by decide), g0_i (aw _).1 (aw _).2, g0_i (aw _).1 (aw _).2, rfl⟩ rfl
  obtain ⟨y2, z2⟩ := ev_det c2 c2'
  cases y2
  cases z2
  exact ⟨r1, r2, I1, I2, J1, J2, R1, R2, c1, c2, g1, g2, ⟨hT2, lwN_k f2 rfl (lwN_k f1 rfl hT.2.1), lwJ_k f2 rfl (lwJ_k f1 rfl hT.2.2.1), lwB_k f2 rfl (lwB_k f1 rfl hT.2.2.2)⟩, e⟩
theorem sqm_time {L : Nat} {xs : Nat → Int32} {I : Nat → Nat → Int32} {J : Nat → Nat → Int64} {R : Nat → Nat → Nat} (hg : aGood (124, I, J, R)) (hT : lwA I J R) (a1 a2 : Int32) : ∃ (r1 r2 : Int32) (I1 I2 : Nat → Nat → Int32) (J1 J2 : Nat → Nat → Int64) (R1 R2 : Nat → Nat → Nat), xEv L xs 19 52 0 [.ref 0, .int a1, .int a2] [] (124, I, J, R) (some (.int r1)) (124, I1, J1, R1) ∧ xEv L xs 19 170 0 [.ref 86, .int a1, .int a2] [] (124, I1, J1, R1) (some (.int r2)) (124, I2, J2, R2) ∧ aGood (124, I1, J1, R1) ∧ aGood (124, I2, J2, R2) ∧ lwA I2 J2 R2 ∧ r2 = r1 := by
  obtain ⟨r1, r2, I1, I2, J1, J2, R1, R2, c1, c2, g1, g2, hT2, e⟩ := sp_time (L := L) (xs := xs) hg hT.1 a1 a2
  obtain ⟨r1', I1', J1', R1', c1', g1', f1, cs1, m1, q1⟩ := api (ol_533 362 (by decide)) (by decide) (L := L) (xs := xs) (d := 19) (vs := [.ref 0, .int a1, .int a2]) (by decide) hg ⟨g0_r (by decide), g0_i (aw _).1 (aw _).2, g0_i (aw _).1 (aw _).2, rfl⟩ rfl
  obtain ⟨y1, z1⟩ := ev_det c1 c1'
  cases y1
  cases z1
  obtain ⟨r2', I2', J2', R2', c2', g2', f2, cs2, m2, q2⟩ := api (ol_533 364 (by decide)) (by decide) (L := L) (xs := xs) (d := 19) (vs := [.ref 86, .int a1, .int a2]) (by decide) g1 ⟨g0_r (by decide), g0_i (aw _).1 (aw _).2, g0_i (aw _).1 (aw _).2, rfl⟩ rfl
  obtain ⟨y2, z2⟩ := ev_det c2 c2'
  cases y2
  cases z2
  exact ⟨r1, r2, I1, I2, J1, J2, R1, R2, c1, c2, g1, g2, ⟨hT2, lwN_k f2 rfl (lwN_k f1 rfl hT.2.1), lwJ_k f2 rfl (lwJ_k f1 rfl hT.2.2.1), lwB_k f2 rfl (lwB_k f1 rfl hT.2.2.2)⟩, e⟩
theorem sqm_judge {L : Nat} {xs : Nat → Int32} {I : Nat → Nat → Int32} {J : Nat → Nat → Int64} {R : Nat → Nat → Nat} (hg : aGood (124, I, J, R)) (hT : lwA I J R) : ∃ (r1 r2 : Int32) (I1 I2 : Nat → Nat → Int32) (J1 J2 : Nat → Nat → Int64) (R1 R2 : Nat → Nat → Nat), xEv L xs 19 53 0 [.ref 0, xmk] [] (124, I, J, R) (some (.int r1)) (124, I1, J1, R1) ∧ xEv L xs 19 172 0 [.ref 86, xmk, xmk] [] (124, I1, J1, R1) (some (.int r2)) (124, I2, J2, R2) ∧ aGood (124, I1, J1, R1) ∧ aGood (124, I2, J2, R2) ∧ lwA I2 J2 R2 ∧ r2 = r1 := by
  obtain ⟨r1, r2, I1, I2, J1, J2, R1, R2, c1, c2, g1, g2, hT2⟩ := sp_judge (L := L) (xs := xs) hg hT.1
  obtain ⟨r1', I1', J1', R1', c1', g1', f1, cs1, m1, q1⟩ := api (ol_533 380 (by decide)) (by decide) (L := L) (xs := xs) (d := 19) (vs := [.ref 0]) (by decide) hg ⟨g0_r (by decide), rfl⟩ rfl
  obtain ⟨y1, z1⟩ := ev_det c1 c1'
  cases y1
  cases z1
  obtain ⟨r2', I2', J2', R2', c2', g2', f2, cs2, m2, q2⟩ := api (ol_533 385 (by decide)) (by decide) (L := L) (xs := xs) (d := 19) (vs := [.ref 86]) (by decide) g1 ⟨g0_r (by decide), rfl⟩ rfl
  obtain ⟨y2, z2⟩ := ev_det c2 c2'
  cases y2
  cases z2
  have b1 := good_int hg 1 1 rfl
  have b2 : (aRng 1 1) = (0, 900) := rfl
  rw [b2] at b1
  dsimp only at b1
  obtain ⟨n, hn⟩ := Int.eq_ofNat_of_zero_le b1.1
  have hn' : (I 1 1).toInt = n := hn
  have p1 : I1 86 1 = I 86 1 := fr_int f1 86 1 rfl
  have p2 : ∀ q, I1 87 q = I 87 q := fun q => kp_i f1 (c := 87) (k := q) (p := 265) rfl (by decide)
  have hb : bM I1 n = bX I n := by
    funext q
    unfold bM bX
    by_cases h : q < n
    · rw [if_pos h, if_pos h, p2]
      exact hT.1.1.2 q (by omega)
    · rw [if_neg h, if_neg h]
  have hm' : (I1 86 1).toInt = n := by rw [p1, ← hT.1.1.1]; exact hn
  have e88 : I2 88 2 = I 88 2 := (fr_int f2 88 2 rfl).trans (fr_int f1 88 2 rfl)
  have cc : ∀ q, I2 47 q = I1 47 q ∧ I2 48 q = I1 48 q ∧ I1 106 q = I 106 q ∧ I1 107 q = I 107 q := fun q => ⟨kp_i f2 (c := 47) (k := q) (p := 113) rfl (by decide), kp_i f2 (c := 48) (k := q) (p := 114) rfl (by decide), kp_i f1 (c := 106) (k := q) (p := 289) rfl (by decide), kp_i f1 (c := 107) (k := q) (p := 290) rfl (by decide)⟩
  have u5 : I2 44 5 = I1 44 5 := fr_int f2 44 5 rfl
  have u35 : I1 86 35 = I 86 35 := fr_int f1 86 35 rfl
  obtain ⟨⟨hT1, ⟨np, nm, nn, l, hV⟩, hK, hF⟩, hN, hJ, hBl⟩ := hT
  have key : r2 = r1 ∧ lwJ I2 := by
    rcases hV with ⟨h8, h9, hV⟩ | ⟨h8, h9, hV⟩
    · have q6 : (I 88 2).toInt = nn := hV.2.2.2.2.2.2.1.2
      have ec := clamp_s (i := I 88 2) (by omega)
      obtain ⟨r, Ic, Ir, Jc, Jr, x1, x2, x3⟩ := jud_3 (L := L) (xs := xs) (d := 15) (d' := 13) (Jc := J) (Jr := J1) (gd_of hg) (gd_of g1) h8 (by decide) (by omega) hn' hm' hb (VR_e_3 hV ⟨⟨rfl, rfl, rfl, rfl, rfl⟩, fun _ _ _ => rfl⟩ (RE_of f1 rfl))
      obtain ⟨y1, y2⟩ := ev_det c1 (x1)
      obtain ⟨y3, y4⟩ := ev_det c2 (x2)
      have er1 := inj_rv y1
      have er2 := inj_rv y3
      have eI1 := inj_hI y2
      have eI2 := inj_hI y4
      refine ⟨by rw [er1, er2], ?_⟩
      rcases x3 with ⟨a1, a2, a3⟩ | ⟨a1, a2, a3⟩
      · refine lwJ_e (by rw [u5, eI1]; exact a1) (by rw [eI2, a2]; exact u35) (fun q => ?_) e88 hJ
        obtain ⟨d1, d2, d3, d4⟩ := cc q
        obtain ⟨k1, k2, k3, k4⟩ := a3 q
        exact ⟨by rw [d1, eI1]; exact k1, by rw [d2, eI1]; exact k2, by rw [eI2, k3]; exact d3, by rw [eI2, k4]; exact d4⟩
      · refine Or.inr ⟨by rw [u5, eI1]; exact a1, by rw [eI2]; exact a2, fun q hq => ?_⟩
        rw [e88] at hq
        obtain ⟨d1, d2, -⟩ := cc q
        obtain ⟨k1, k2⟩ := a3 q (by omega)
        rw [d1, d2, eI1, eI2]
        exact ⟨k1, k2⟩
    · have q6 : (I 88 2).toInt = nn := hV.2.2.2.2.2.2.1.2
      have ec := clamp_s (i := I 88 2) (by omega)
      obtain ⟨r, Ic, Ir, Jc, Jr, x1, x2, x3⟩ := jud_23 (L := L) (xs := xs) (d := 15) (d' := 13) (Jc := J) (Jr := J1) (gd_of hg) (gd_of g1) h8 (by decide) (by omega) hn' hm' hb (VR_e_23 hV ⟨⟨rfl, rfl, rfl, rfl, rfl⟩, fun _ _ _ => rfl⟩ (RE_of f1 rfl))
      obtain ⟨y1, y2⟩ := ev_det c1 (x1)
      obtain ⟨y3, y4⟩ := ev_det c2 (x2)
      have er1 := inj_rv y1
      have er2 := inj_rv y3
      have eI1 := inj_hI y2
      have eI2 := inj_hI y4
      refine ⟨by rw [er1, er2], ?_⟩
      rcases x3 with ⟨a1, a2, a3⟩ | ⟨a1, a2, a3⟩
      · refine lwJ_e (by rw [u5, eI1]; exact a1) (by rw [eI2, a2]; exact u35) (fun q => ?_) e88 hJ
        obtain ⟨d1, d2, d3, d4⟩ := cc q
        obtain ⟨k1, k2, k3, k4⟩ := a3 q
        exact ⟨by rw [d1, eI1]; exact k1, by rw [d2, eI1]; exact k2, by rw [eI2, k3]; exact d3, by rw [eI2, k4]; exact d4⟩
      · refine Or.inr ⟨by rw [u5, eI1]; exact a1, by rw [eI2]; exact a2, fun q hq => ?_⟩
        rw [e88] at hq
        obtain ⟨d1, d2, -⟩ := cc q
        obtain ⟨k1, k2⟩ := a3 q (by omega)
        rw [d1, d2, eI1, eI2]
        exact ⟨k1, k2⟩
  exact ⟨r1, r2, I1, I2, J1, J2, R1, R2, c1, c2, g1, g2, ⟨hT2, lwN_k f2 rfl (lwN_k f1 rfl hN), key.2, lwB_k f2 rfl (lwB_k f1 rfl hBl)⟩, key.1⟩
theorem sqm_judged {L : Nat} {xs : Nat → Int32} {I : Nat → Nat → Int32} {J : Nat → Nat → Int64} {R : Nat → Nat → Nat} (hg : aGood (124, I, J, R)) (hT : lwA I J R) (a1 a2 : Int32) : ∃ (r1 r2 : Int32) (I1 I2 : Nat → Nat → Int32) (J1 J2 : Nat → Nat → Int64) (R1 R2 : Nat → Nat → Nat), xEv L xs 19 62 0 [.ref 0, .int a1, .int a2] [] (124, I, J, R) (some (.int r1)) (124, I1, J1, R1) ∧ xEv L xs 19 181 0 [.ref 86, .int a1, .int a2] [] (124, I1, J1, R1) (some (.int r2)) (124, I2, J2, R2) ∧ aGood (124, I1, J1, R1) ∧ aGood (124, I2, J2, R2) ∧ lwA I2 J2 R2 ∧ r2 = r1 := by
  obtain ⟨r1, r2, I1, I2, J1, J2, R1, R2, c1, c2, g1, g2, hT2⟩ := sp_judged (L := L) (xs := xs) hg hT.1 a1 a2
  obtain ⟨r1', I1', J1', R1', c1', g1', f1, cs1, m1, q1⟩ := api (ol_533 387 (by decide)) (by decide) (L := L) (xs := xs) (d := 19) (vs := [.ref 0, .int a1, .int a2]) (by decide) hg ⟨g0_r (by decide), g0_i (aw _).1 (aw _).2, g0_i (aw _).1 (aw _).2, rfl⟩ rfl
  obtain ⟨y1, z1⟩ := ev_det c1 c1'
  cases y1
  cases z1
  obtain ⟨r2', I2', J2', R2', c2', g2', f2, cs2, m2, q2⟩ := api (ol_533 388 (by decide)) (by decide) (L := L) (xs := xs) (d := 19) (vs := [.ref 86, .int a1, .int a2]) (by decide) g1 ⟨g0_r (by decide), g0_i (aw _).1 (aw _).2, g0_i (aw _).1 (aw _).2, rfl⟩ rfl
  obtain ⟨y2, z2⟩ := ev_det c2 c2'
  cases y2
  cases z2
  have key : r2 = r1 := by
    obtain ⟨⟨hT1, ⟨np, nm, nn, l, hV⟩, hK, hF⟩, hN, hJ, hBl⟩ := hT
    rcases hV with ⟨h8, h9, hV⟩ | ⟨h8, h9, hV⟩
    · have q6 : (I 88 2).toInt = nn := hV.2.2.2.2.2.2.1.2
      have ec := clamp_s (i := I 88 2) (by omega)
      have ek : (I 88 2).toNatClampNeg = nn := by omega
      have hJ' : jdS nn I := by rw [← ek]; exact hJ
      obtain ⟨r, x1, x2⟩ := jdg_3 (L := L) (xs := xs) (d := 18) (d' := 17) (J := J) (gd_of hg) h8 hV hJ' a1 a2
      obtain ⟨y1, y2⟩ := ev_det c1 x1
      cases y1
      cases y2
      obtain ⟨y3, y4⟩ := ev_det c2 x2
      cases y3
      rfl
    · have q6 : (I 88 2).toInt = nn := hV.2.2.2.2.2.2.1.2
      have ec := clamp_s (i := I 88 2) (by omega)
      have ek : (I 88 2).toNatClampNeg = nn := by omega
      have hJ' : jdS nn I := by rw [← ek]; exact hJ
      obtain ⟨r, x1, x2⟩ := jdg_23 (L := L) (xs := xs) (d := 18) (d' := 17) (J := J) (gd_of hg) h8 hV hJ' a1 a2
      obtain ⟨y1, y2⟩ := ev_det c1 x1
      cases y1
      cases y2
      obtain ⟨y3, y4⟩ := ev_det c2 x2
      cases y3
      rfl
  exact ⟨r1, r2, I1, I2, J1, J2, R1, R2, c1, c2, g1, g2, ⟨hT2, lwN_k f2 rfl (lwN_k f1 rfl hT.2.1), lwJ_k f2 rfl (lwJ_k f1 rfl hT.2.2.1), lwB_k f2 rfl (lwB_k f1 rfl hT.2.2.2)⟩, key⟩
theorem sqm_soon {L : Nat} {xs : Nat → Int32} {I : Nat → Nat → Int32} {J : Nat → Nat → Int64} {R : Nat → Nat → Nat} (hg : aGood (124, I, J, R)) (hT : lwA I J R) (a1 a2 a3 a4 : Int32) : ∃ (r1 r2 : Int32) (I1 I2 : Nat → Nat → Int32) (J1 J2 : Nat → Nat → Int64) (R1 R2 : Nat → Nat → Nat), xEv L xs 19 63 0 [.ref 0, .int a1, .int a2, .int a3, .int a4] [] (124, I, J, R) (some (.int r1)) (124, I1, J1, R1) ∧ xEv L xs 19 182 0 [.ref 86, .int a1, .int a2, .int a3, .int a4, xmk] [] (124, I1, J1, R1) (some (.int r2)) (124, I2, J2, R2) ∧ aGood (124, I1, J1, R1) ∧ aGood (124, I2, J2, R2) ∧ lwA I2 J2 R2 ∧ r2 = r1 := by
  obtain ⟨r1, r2, I1, I2, J1, J2, R1, R2, c1, c2, g1, g2, hT2, e⟩ := sp_soon (L := L) (xs := xs) hg hT.1 a1 a2 a3 a4
  obtain ⟨r1', I1', J1', R1', c1', g1', f1, cs1, m1, q1⟩ := api (ol_533 391 (by decide)) (by decide) (L := L) (xs := xs) (d := 19) (vs := [.ref 0, .int a1, .int a2, .int a3, .int a4]) (by decide) hg ⟨g0_r (by decide), g0_i (aw _).1 (aw _).2, g0_i (aw _).1 (aw _).2, g0_i (aw _).1 (aw _).2, g0_i (aw _).1 (aw _).2, rfl⟩ rfl
  obtain ⟨y1, z1⟩ := ev_det c1 c1'
  cases y1
  cases z1
  obtain ⟨r2', I2', J2', R2', c2', g2', f2, cs2, m2, q2⟩ := api (ol_533 395 (by decide)) (by decide) (L := L) (xs := xs) (d := 19) (vs := [.ref 86, .int a1, .int a2, .int a3, .int a4]) (by decide) g1 ⟨g0_r (by decide), g0_i (aw _).1 (aw _).2, g0_i (aw _).1 (aw _).2, g0_i (aw _).1 (aw _).2, g0_i (aw _).1 (aw _).2, rfl⟩ rfl
  obtain ⟨y2, z2⟩ := ev_det c2 c2'
  cases y2
  cases z2
  exact ⟨r1, r2, I1, I2, J1, J2, R1, R2, c1, c2, g1, g2, ⟨hT2, lwN_k f2 rfl (lwN_k f1 rfl hT.2.1), lwJ_k f2 rfl (lwJ_k f1 rfl hT.2.2.1), lwB_k f2 rfl (lwB_k f1 rfl hT.2.2.2)⟩, e⟩
theorem sqm_surest {L : Nat} {xs : Nat → Int32} {I : Nat → Nat → Int32} {J : Nat → Nat → Int64} {R : Nat → Nat → Nat} (hg : aGood (124, I, J, R)) (hT : lwA I J R) (a1 a2 a3 a4 a5 a6 : Int32) : ∃ (r1 r2 : Int32) (I1 I2 : Nat → Nat → Int32) (J1 J2 : Nat → Nat → Int64) (R1 R2 : Nat → Nat → Nat), xEv L xs 19 68 0 [.ref 0, .int a1, .int a2, .int a3, .int a4, .int a5, .int a6, xmk] [] (124, I, J, R) (some (.int r1)) (124, I1, J1, R1) ∧ xEv L xs 19 188 0 [.ref 86, .int a1, .int a2, .int a3, .int a4, .int a5, .int a6] [] (124, I1, J1, R1) (some (.int r2)) (124, I2, J2, R2) ∧ aGood (124, I1, J1, R1) ∧ aGood (124, I2, J2, R2) ∧ lwA I2 J2 R2 := by
  obtain ⟨r1, r2, I1, I2, J1, J2, R1, R2, c1, c2, g1, g2, hT2⟩ := sp_surest (L := L) (xs := xs) hg hT.1 a1 a2 a3 a4 a5 a6
  obtain ⟨r1', I1', J1', R1', c1', g1', f1, cs1, m1, q1⟩ := api (ol_533 402 (by decide)) (by decide) (L := L) (xs := xs) (d := 19) (vs := [.ref 0, .int a1, .int a2, .int a3, .int a4, .int a5, .int a6]) (by decide) hg ⟨g0_r (by decide), g0_i (aw _).1 (aw _).2, g0_i (aw _).1 (aw _).2, g0_i (aw _).1 (aw _).2, g0_i (aw _).1 (aw _).2, g0_i (aw _).1 (aw _).2, g0_i (aw _).1 (aw _).2, rfl⟩ rfl
  obtain ⟨y1, z1⟩ := ev_det c1 c1'
  cases y1
  cases z1
  obtain ⟨r2', I2', J2', R2', c2', g2', f2, cs2, m2, q2⟩ := api (ol_533 407 (by decide)) (by decide) (L := L) (xs := xs) (d := 19) (vs := [.ref 86, .int a1, .int a2, .int a3, .int a4, .int a5, .int a6]) (by decide) g1 ⟨g0_r (by decide), g0_i (aw _).1 (aw _).2, g0_i (aw _).1 (aw _).2, g0_i (aw _).1 (aw _).2, g0_i (aw _).1 (aw _).2, g0_i (aw _).1 (aw _).2, g0_i (aw _).1 (aw _).2, rfl⟩ rfl
  obtain ⟨y2, z2⟩ := ev_det c2 c2'
  cases y2
  cases z2
  exact ⟨r1, r2, I1, I2, J1, J2, R1, R2, c1, c2, g1, g2, ⟨hT2, lwN_k f2 rfl (lwN_k f1 rfl hT.2.1), lwJ_k f2 rfl (lwJ_k f1 rfl hT.2.2.1), lwB_k f2 rfl (lwB_k f1 rfl hT.2.2.2)⟩⟩
theorem sqm_bars {L : Nat} {xs : Nat → Int32} {I : Nat → Nat → Int32} {J : Nat → Nat → Int64} {R : Nat → Nat → Nat} (hg : aGood (124, I, J, R)) (hT : lwA I J R) (a1 a2 a3 a4 : Int32) : ∃ (r1 r2 : Int32) (I1 I2 : Nat → Nat → Int32) (J1 J2 : Nat → Nat → Int64) (R1 R2 : Nat → Nat → Nat), xEv L xs 19 82 0 [.ref 0, .int a1, .int a2, .int a3, .int a4, xmk, xmk, xmk] [] (124, I, J, R) (some (.int r1)) (124, I1, J1, R1) ∧ xEv L xs 19 187 0 [.ref 86, .int a1, .int a2, .int a3, .int a4, xmk, xmk] [] (124, I1, J1, R1) (some (.int r2)) (124, I2, J2, R2) ∧ aGood (124, I1, J1, R1) ∧ aGood (124, I2, J2, R2) ∧ lwA I2 J2 R2 ∧ r2 = r1 := by
  obtain ⟨r1, r2, I1, I2, J1, J2, R1, R2, c1, c2, g1, g2, hT2, e⟩ := sp_bars (L := L) (xs := xs) hg hT.1 a1 a2 a3 a4
  obtain ⟨r1', I1', J1', R1', c1', g1', f1, cs1, m1, q1⟩ := api (ol_533 408 (by decide)) (by decide) (L := L) (xs := xs) (d := 19) (vs := [.ref 0, .int a1, .int a2, .int a3, .int a4]) (by decide) hg ⟨g0_r (by decide), g0_i (aw _).1 (aw _).2, g0_i (aw _).1 (aw _).2, g0_i (aw _).1 (aw _).2, g0_i (aw _).1 (aw _).2, rfl⟩ rfl
  obtain ⟨y1, z1⟩ := ev_det c1 c1'
  cases y1
  cases z1
  obtain ⟨r2', I2', J2', R2', c2', g2', f2, cs2, m2, q2⟩ := api (ol_533 409 (by decide)) (by decide) (L := L) (xs := xs) (d := 19) (vs := [.ref 86, .int a1, .int a2, .int a3, .int a4]) (by decide) g1 ⟨g0_r (by decide), g0_i (aw _).1 (aw _).2, g0_i (aw _).1 (aw _).2, g0_i (aw _).1 (aw _).2, g0_i (aw _).1 (aw _).2, rfl⟩ rfl
  obtain ⟨y2, z2⟩ := ev_det c2 c2'
  cases y2
  cases z2
  exact ⟨r1, r2, I1, I2, J1, J2, R1, R2, c1, c2, g1, g2, ⟨hT2, lwN_k f2 rfl (lwN_k f1 rfl hT.2.1), lwJ_k f2 rfl (lwJ_k f1 rfl hT.2.2.1), lwB_k f2 rfl (lwB_k f1 rfl hT.2.2.2)⟩, e⟩
theorem sqm_all {L : Nat} {xs : Nat → Int32} {I : Nat → Nat → Int32} {J : Nat → Nat → Int64} {R : Nat → Nat → Nat} (hg : aGood (124, I, J, R)) (hT : lwA I J R) (a1 : Int32) : ∃ (r1 r2 : Int32) (I1 I2 : Nat → Nat → Int32) (J1 J2 : Nat → Nat → Int64) (R1 R2 : Nat → Nat → Nat), xEv L xs 19 83 0 [.ref 0, .int a1] [] (124, I, J, R) (some (.int r1)) (124, I1, J1, R1) ∧ xEv L xs 19 198 0 [.ref 86, .int a1] [] (124, I1, J1, R1) (some (.int r2)) (124, I2, J2, R2) ∧ aGood (124, I1, J1, R1) ∧ aGood (124, I2, J2, R2) ∧ lwA I2 J2 R2 := by
  obtain ⟨r1, r2, I1, I2, J1, J2, R1, R2, c1, c2, g1, g2, hT2⟩ := sp_all (L := L) (xs := xs) hg hT.1 a1
  obtain ⟨r1', I1', J1', R1', c1', g1', f1, cs1, m1, q1⟩ := api (ol_533 432 (by decide)) (by decide) (L := L) (xs := xs) (d := 19) (vs := [.ref 0, .int a1]) (by decide) hg ⟨g0_r (by decide), g0_i (aw _).1 (aw _).2, rfl⟩ rfl
  obtain ⟨y1, z1⟩ := ev_det c1 c1'
  cases y1
  cases z1
  obtain ⟨r2', I2', J2', R2', c2', g2', f2, cs2, m2, q2⟩ := api (ol_533 457 (by decide)) (by decide) (L := L) (xs := xs) (d := 19) (vs := [.ref 86, .int a1]) (by decide) g1 ⟨g0_r (by decide), g0_i (aw _).1 (aw _).2, rfl⟩ rfl
  obtain ⟨y2, z2⟩ := ev_det c2 c2'
  cases y2
  cases z2
  exact ⟨r1, r2, I1, I2, J1, J2, R1, R2, c1, c2, g1, g2, ⟨hT2, lwN_k f2 rfl (lwN_k f1 rfl hT.2.1), lwJ_k f2 rfl (lwJ_k f1 rfl hT.2.2.1), lwB_k f2 rfl (lwB_k f1 rfl hT.2.2.2)⟩⟩
theorem sqm_together {L : Nat} {xs : Nat → Int32} {I : Nat → Nat → Int32} {J : Nat → Nat → Int64} {R : Nat → Nat → Nat} (hg : aGood (124, I, J, R)) (hT : lwA I J R) (a1 a2 : Int32) : ∃ (r1 r2 : Int32) (I1 I2 : Nat → Nat → Int32) (J1 J2 : Nat → Nat → Int64) (R1 R2 : Nat → Nat → Nat), xEv L xs 19 93 0 [.ref 0, .int a1, .int a2, xmk] [] (124, I, J, R) (some (.int r1)) (124, I1, J1, R1) ∧ xEv L xs 19 208 0 [.ref 86, .int a1, .int a2, xmk, xmk, xmk, xmk, xmk] [] (124, I1, J1, R1) (some (.int r2)) (124, I2, J2, R2) ∧ aGood (124, I1, J1, R1) ∧ aGood (124, I2, J2, R2) ∧ lwA I2 J2 R2 := by
  obtain ⟨r1, r2, I1, I2, J1, J2, R1, R2, c1, c2, g1, g2, hT2⟩ := sp_together (L := L) (xs := xs) hg hT.1 a1 a2
  obtain ⟨r1', I1', J1', R1', c1', g1', f1, cs1, m1, q1⟩ := api (ol_533 459 (by decide)) (by decide) (L := L) (xs := xs) (d := 19) (vs := [.ref 0, .int a1, .int a2]) (by decide) hg ⟨g0_r (by decide), g0_i (aw _).1 (aw _).2, g0_i (aw _).1 (aw _).2, rfl⟩ rfl
  obtain ⟨y1, z1⟩ := ev_det c1 c1'
  cases y1
  cases z1
  obtain ⟨r2', I2', J2', R2', c2', g2', f2, cs2, m2, q2⟩ := api (ol_533 461 (by decide)) (by decide) (L := L) (xs := xs) (d := 19) (vs := [.ref 86, .int a1, .int a2]) (by decide) g1 ⟨g0_r (by decide), g0_i (aw _).1 (aw _).2, g0_i (aw _).1 (aw _).2, rfl⟩ rfl
  obtain ⟨y2, z2⟩ := ev_det c2 c2'
  cases y2
  cases z2
  exact ⟨r1, r2, I1, I2, J1, J2, R1, R2, c1, c2, g1, g2, ⟨hT2, lwN_k f2 rfl (lwN_k f1 rfl hT.2.1), lwJ_k f2 rfl (lwJ_k f1 rfl hT.2.2.1), lwB_k f2 rfl (lwB_k f1 rfl hT.2.2.2)⟩⟩
theorem sqm_reply {L : Nat} {xs : Nat → Int32} {I : Nat → Nat → Int32} {J : Nat → Nat → Int64} {R : Nat → Nat → Nat} (hg : aGood (124, I, J, R)) (hT : lwA I J R) (a1 : Int32) : ∃ (r1 r2 : Int32) (I1 I2 : Nat → Nat → Int32) (J1 J2 : Nat → Nat → Int64) (R1 R2 : Nat → Nat → Nat), xEv L xs 19 95 0 [.ref 0, .int a1, xmk] [] (124, I, J, R) (some (.int r1)) (124, I1, J1, R1) ∧ xEv L xs 19 210 0 [.ref 86, .int a1, xmk, xmk, xmk] [] (124, I1, J1, R1) (some (.int r2)) (124, I2, J2, R2) ∧ aGood (124, I1, J1, R1) ∧ aGood (124, I2, J2, R2) ∧ lwA I2 J2 R2 ∧ r2 = r1 := by
  obtain ⟨r1, r2, I1, I2, J1, J2, R1, R2, c1, c2, g1, g2, hT2⟩ := sp_reply (L := L) (xs := xs) hg hT.1 a1
  obtain ⟨r1', I1', J1', R1', c1', g1', f1, cs1, m1, q1⟩ := api (ol_533 466 (by decide)) (by decide) (L := L) (xs := xs) (d := 19) (vs := [.ref 0, .int a1]) (by decide) hg ⟨g0_r (by decide), g0_i (aw _).1 (aw _).2, rfl⟩ rfl
  obtain ⟨y1, z1⟩ := ev_det c1 c1'
  cases y1
  cases z1
  obtain ⟨r2', I2', J2', R2', c2', g2', f2, cs2, m2, q2⟩ := api (ol_533 468 (by decide)) (by decide) (L := L) (xs := xs) (d := 19) (vs := [.ref 86, .int a1]) (by decide) g1 ⟨g0_r (by decide), g0_i (aw _).1 (aw _).2, rfl⟩ rfl
  obtain ⟨y2, z2⟩ := ev_det c2 c2'
  cases y2
  cases z2
  have b1 := good_int hg 1 1 rfl
  have b2 : (aRng 1 1) = (0, 900) := rfl
  rw [b2] at b1
  dsimp only at b1
  obtain ⟨n, hn⟩ := Int.eq_ofNat_of_zero_le b1.1
  have hn' : (I 1 1).toInt = n := hn
  have p1 : I1 86 1 = I 86 1 := fr_int f1 86 1 rfl
  have p2 : ∀ q, I1 87 q = I 87 q := fun q => kp_i f1 (c := 87) (k := q) (p := 265) rfl (by decide)
  have hb : bM I1 n = bX I n := by
    funext q
    unfold bM bX
    by_cases h : q < n
    · rw [if_pos h, if_pos h, p2]
      exact hT.1.1.2 q (by omega)
    · rw [if_neg h, if_neg h]
  have hm' : (I1 86 1).toInt = n := by rw [p1, ← hT.1.1.1]; exact hn
  have hB : ∀ q, q < n → I1 87 q &&& 255 = I 2 q ∧ -128 ≤ (I1 87 q).toInt ∧ (I1 87 q).toInt ≤ 127 := by
    intro q hq
    have z : aIn2 (aRng 87 q) (I 87 q) := hg.2.1 87 q (show q < 900 by omega)
    rw [show aRng 87 q = (-128, 127) from rfl] at z
    rw [p2 q]
    exact ⟨hT.1.1.2 q (by omega), z.1, z.2⟩
  have key : r2 = r1 := by
    obtain ⟨⟨hT1, ⟨np, nm, nn, l, hV⟩, hK, hF⟩, -⟩ := hT
    rcases hV with ⟨h8, h9, hV⟩ | ⟨h8, h9, hV⟩
    · obtain ⟨r, Ic, Ir, x1, x2⟩ := rep_3 (L := L) (xs := xs) (d := 15) (d' := 16) (J := J) (Jr := J1) (gd_of hg) (gd_of g1) h8 (VR_e_3 hV ⟨⟨rfl, rfl, rfl, rfl, rfl⟩, fun _ _ _ => rfl⟩ (RE_of f1 rfl)) hn' hm' (by omega) hB a1
      rw [inj_rv (ev_det c1 x1).1, inj_rv (ev_det c2 x2).1]
    · obtain ⟨r, Ic, Ir, x1, x2⟩ := rep_23 (L := L) (xs := xs) (d := 15) (d' := 16) (J := J) (Jr := J1) (gd_of hg) (gd_of g1) h8 (VR_e_23 hV ⟨⟨rfl, rfl, rfl, rfl, rfl⟩, fun _ _ _ => rfl⟩ (RE_of f1 rfl)) hn' hm' (by omega) hB a1
      rw [inj_rv (ev_det c1 x1).1, inj_rv (ev_det c2 x2).1]
  exact ⟨r1, r2, I1, I2, J1, J2, R1, R2, c1, c2, g1, g2, ⟨hT2, lwN_k f2 rfl (lwN_k f1 rfl hT.2.1), lwJ_k f2 rfl (lwJ_k f1 rfl hT.2.2.1), lwB_k f2 rfl (lwB_k f1 rfl hT.2.2.2)⟩, key⟩
theorem sqm_ring {L : Nat} {xs : Nat → Int32} {I : Nat → Nat → Int32} {J : Nat → Nat → Int64} {R : Nat → Nat → Nat} (hg : aGood (124, I, J, R)) (hT : lwA I J R) (a1 : Int32) : ∃ (r1 r2 : Int32) (I1 I2 : Nat → Nat → Int32) (J1 J2 : Nat → Nat → Int64) (R1 R2 : Nat → Nat → Nat), xEv L xs 19 100 0 [.ref 0, .int a1, xmk] [] (124, I, J, R) (some (.int r1)) (124, I1, J1, R1) ∧ xEv L xs 19 212 0 [.ref 86, .int a1, xmk, xmk] [] (124, I1, J1, R1) (some (.int r2)) (124, I2, J2, R2) ∧ aGood (124, I1, J1, R1) ∧ aGood (124, I2, J2, R2) ∧ lwA I2 J2 R2 := by
  obtain ⟨r1, r2, I1, I2, J1, J2, R1, R2, c1, c2, g1, g2, hT2⟩ := sp_ring (L := L) (xs := xs) hg hT.1 a1
  obtain ⟨r1', I1', J1', R1', c1', g1', f1, cs1, m1, q1⟩ := api (ol_533 478 (by decide)) (by decide) (L := L) (xs := xs) (d := 19) (vs := [.ref 0, .int a1]) (by decide) hg ⟨g0_r (by decide), g0_i (aw _).1 (aw _).2, rfl⟩ rfl
  obtain ⟨y1, z1⟩ := ev_det c1 c1'
  cases y1
  cases z1
  obtain ⟨r2', I2', J2', R2', c2', g2', f2, cs2, m2, q2⟩ := api (ol_533 479 (by decide)) (by decide) (L := L) (xs := xs) (d := 19) (vs := [.ref 86, .int a1]) (by decide) g1 ⟨g0_r (by decide), g0_i (aw _).1 (aw _).2, rfl⟩ rfl
  obtain ⟨y2, z2⟩ := ev_det c2 c2'
  cases y2
  cases z2
  exact ⟨r1, r2, I1, I2, J1, J2, R1, R2, c1, c2, g1, g2, ⟨hT2, lwN_k f2 rfl (lwN_k f1 rfl hT.2.1), lwJ_k f2 rfl (lwJ_k f1 rfl hT.2.2.1), lwB_k f2 rfl (lwB_k f1 rfl hT.2.2.2)⟩⟩
theorem sqm_bestRing {L : Nat} {xs : Nat → Int32} {I : Nat → Nat → Int32} {J : Nat → Nat → Int64} {R : Nat → Nat → Nat} (hg : aGood (124, I, J, R)) (hT : lwA I J R) (a1 : Int32) : ∃ (r1 r2 : Int32) (I1 I2 : Nat → Nat → Int32) (J1 J2 : Nat → Nat → Int64) (R1 R2 : Nat → Nat → Nat), xEv L xs 19 109 0 [.ref 0, .int a1, xmk, xmk] [] (124, I, J, R) (some (.int r1)) (124, I1, J1, R1) ∧ xEv L xs 19 214 0 [.ref 86, .int a1, xmk, xmk, xmk, xmk] [] (124, I1, J1, R1) (some (.int r2)) (124, I2, J2, R2) ∧ aGood (124, I1, J1, R1) ∧ aGood (124, I2, J2, R2) ∧ lwA I2 J2 R2 ∧ r2 = r1 := by
  obtain ⟨r1, r2, I1, I2, J1, J2, R1, R2, c1, c2, g1, g2, hT2, e⟩ := sp_bestRing (L := L) (xs := xs) hg hT.1 a1
  obtain ⟨r1', I1', J1', R1', c1', g1', f1, cs1, m1, q1⟩ := api (ol_533 482 (by decide)) (by decide) (L := L) (xs := xs) (d := 19) (vs := [.ref 0, .int a1]) (by decide) hg ⟨g0_r (by decide), g0_i (aw _).1 (aw _).2, rfl⟩ rfl
  obtain ⟨y1, z1⟩ := ev_det c1 c1'
  cases y1
  cases z1
  obtain ⟨r2', I2', J2', R2', c2', g2', f2, cs2, m2, q2⟩ := api (ol_533 484 (by decide)) (by decide) (L := L) (xs := xs) (d := 19) (vs := [.ref 86, .int a1]) (by decide) g1 ⟨g0_r (by decide), g0_i (aw _).1 (aw _).2, rfl⟩ rfl
  obtain ⟨y2, z2⟩ := ev_det c2 c2'
  cases y2
  cases z2
  exact ⟨r1, r2, I1, I2, J1, J2, R1, R2, c1, c2, g1, g2, ⟨hT2, lwN_k f2 rfl (lwN_k f1 rfl hT.2.1), lwJ_k f2 rfl (lwJ_k f1 rfl hT.2.2.1), lwB_k f2 rfl (lwB_k f1 rfl hT.2.2.2)⟩, e⟩
theorem sqm_where {L : Nat} {xs : Nat → Int32} {I : Nat → Nat → Int32} {J : Nat → Nat → Int64} {R : Nat → Nat → Nat} (hg : aGood (124, I, J, R)) (hT : lwA I J R) (a1 a2 a3 a4 a5 a6 : Int32) : ∃ (r1 r2 : Int32) (I1 I2 : Nat → Nat → Int32) (J1 J2 : Nat → Nat → Int64) (R1 R2 : Nat → Nat → Nat), xEv L xs 19 111 0 [.ref 0, .int a1, .int a2, .int a3, .int a4, .int a5, .int a6] [] (124, I, J, R) (some (.int r1)) (124, I1, J1, R1) ∧ xEv L xs 19 215 0 [.ref 86, .int a1, .int a2, .int a3, .int a4, .int a5, .int a6] [] (124, I1, J1, R1) (some (.int r2)) (124, I2, J2, R2) ∧ aGood (124, I1, J1, R1) ∧ aGood (124, I2, J2, R2) ∧ lwA I2 J2 R2 := by
  obtain ⟨r1, r2, I1, I2, J1, J2, R1, R2, c1, c2, g1, g2, hT2⟩ := sp_where (L := L) (xs := xs) hg hT.1 a1 a2 a3 a4 a5 a6
  obtain ⟨r1', I1', J1', R1', c1', g1', f1, cs1, m1, q1⟩ := api (ol_533 488 (by decide)) (by decide) (L := L) (xs := xs) (d := 19) (vs := [.ref 0, .int a1, .int a2, .int a3, .int a4, .int a5, .int a6]) (by decide) hg ⟨g0_r (by decide), g0_i (aw _).1 (aw _).2, g0_i (aw _).1 (aw _).2, g0_i (aw _).1 (aw _).2, g0_i (aw _).1 (aw _).2, g0_i (aw _).1 (aw _).2, g0_i (aw _).1 (aw _).2, rfl⟩ rfl
  obtain ⟨y1, z1⟩ := ev_det c1 c1'
  cases y1
  cases z1
  obtain ⟨r2', I2', J2', R2', c2', g2', f2, cs2, m2, q2⟩ := api (ol_533 493 (by decide)) (by decide) (L := L) (xs := xs) (d := 19) (vs := [.ref 86, .int a1, .int a2, .int a3, .int a4, .int a5, .int a6]) (by decide) g1 ⟨g0_r (by decide), g0_i (aw _).1 (aw _).2, g0_i (aw _).1 (aw _).2, g0_i (aw _).1 (aw _).2, g0_i (aw _).1 (aw _).2, g0_i (aw _).1 (aw _).2, g0_i (aw _).1 (aw _).2, rfl⟩ rfl
  obtain ⟨y2, z2⟩ := ev_det c2 c2'
  cases y2
  cases z2
  exact ⟨r1, r2, I1, I2, J1, J2, R1, R2, c1, c2, g1, g2, ⟨hT2, lwN_k f2 rfl (lwN_k f1 rfl hT.2.1), lwJ_k f2 rfl (lwJ_k f1 rfl hT.2.2.1), lwB_k f2 rfl (lwB_k f1 rfl hT.2.2.2)⟩⟩
theorem sqm_ask {L : Nat} {xs : Nat → Int32} {I : Nat → Nat → Int32} {J : Nat → Nat → Int64} {R : Nat → Nat → Nat} (hg : aGood (124, I, J, R)) (hT : lwA I J R) (a1 a2 a3 a4 a5 : Int32) : ∃ (r1 r2 : Int32) (I1 I2 : Nat → Nat → Int32) (J1 J2 : Nat → Nat → Int64) (R1 R2 : Nat → Nat → Nat), xEv L xs 19 114 0 [.ref 0, .int a1, .int a2, .int a3, .int a4, .int a5, xmk, xmk] [] (124, I, J, R) (some (.int r1)) (124, I1, J1, R1) ∧ xEv L xs 19 218 0 [.ref 86, .int a1, .int a2, .int a3, .int a4, .int a5, xmk, xmk] [] (124, I1, J1, R1) (some (.int r2)) (124, I2, J2, R2) ∧ aGood (124, I1, J1, R1) ∧ aGood (124, I2, J2, R2) ∧ lwA I2 J2 R2 := by
  obtain ⟨r1, r2, I1, I2, J1, J2, R1, R2, c1, c2, g1, g2, hT2⟩ := sp_ask (L := L) (xs := xs) hg hT.1 a1 a2 a3 a4 a5
  obtain ⟨r1', I1', J1', R1', c1', g1', f1, cs1, m1, q1⟩ := api (ol_533 494 (by decide)) (by decide) (L := L) (xs := xs) (d := 19) (vs := [.ref 0, .int a1, .int a2, .int a3, .int a4, .int a5]) (by decide) hg ⟨g0_r (by decide), g0_i (aw _).1 (aw _).2, g0_i (aw _).1 (aw _).2, g0_i (aw _).1 (aw _).2, g0_i (aw _).1 (aw _).2, g0_i (aw _).1 (aw _).2, rfl⟩ rfl
  obtain ⟨y1, z1⟩ := ev_det c1 c1'
  cases y1
  cases z1
  obtain ⟨r2', I2', J2', R2', c2', g2', f2, cs2, m2, q2⟩ := api (ol_533 495 (by decide)) (by decide) (L := L) (xs := xs) (d := 19) (vs := [.ref 86, .int a1, .int a2, .int a3, .int a4, .int a5]) (by decide) g1 ⟨g0_r (by decide), g0_i (aw _).1 (aw _).2, g0_i (aw _).1 (aw _).2, g0_i (aw _).1 (aw _).2, g0_i (aw _).1 (aw _).2, g0_i (aw _).1 (aw _).2, rfl⟩ rfl
  obtain ⟨y2, z2⟩ := ev_det c2 c2'
  cases y2
  cases z2
  exact ⟨r1, r2, I1, I2, J1, J2, R1, R2, c1, c2, g1, g2, ⟨hT2, lwN_k f2 rfl (lwN_k f1 rfl hT.2.1), lwJ_k f2 rfl (lwJ_k f1 rfl hT.2.2.1), lwB_k f2 rfl (lwB_k f1 rfl hT.2.2.2)⟩⟩
theorem sqm_fight {L : Nat} {xs : Nat → Int32} {I : Nat → Nat → Int32} {J : Nat → Nat → Int64} {R : Nat → Nat → Nat} (hg : aGood (124, I, J, R)) (hT : lwA I J R) (a1 : Int32) : ∃ (r1 r2 : Int32) (I1 I2 : Nat → Nat → Int32) (J1 J2 : Nat → Nat → Int64) (R1 R2 : Nat → Nat → Nat), xEv L xs 19 115 0 [.ref 0, .int a1, xmk] [] (124, I, J, R) (some (.int r1)) (124, I1, J1, R1) ∧ xEv L xs 19 219 0 [.ref 86, .int a1, xmk, xmk, xmk, xmk, xmk, xmk, xmk] [] (124, I1, J1, R1) (some (.int r2)) (124, I2, J2, R2) ∧ aGood (124, I1, J1, R1) ∧ aGood (124, I2, J2, R2) ∧ lwA I2 J2 R2 := by
  obtain ⟨r1, r2, I1, I2, J1, J2, R1, R2, c1, c2, g1, g2, hT2⟩ := sp_fight (L := L) (xs := xs) hg hT.1 a1
  obtain ⟨r1', I1', J1', R1', c1', g1', f1, cs1, m1, q1⟩ := api (ol_533 498 (by decide)) (by decide) (L := L) (xs := xs) (d := 19) (vs := [.ref 0, .int a1]) (by decide) hg ⟨g0_r (by decide), g0_i (aw _).1 (aw _).2, rfl⟩ rfl
  obtain ⟨y1, z1⟩ := ev_det c1 c1'
  cases y1
  cases z1
  obtain ⟨r2', I2', J2', R2', c2', g2', f2, cs2, m2, q2⟩ := api (ol_533 499 (by decide)) (by decide) (L := L) (xs := xs) (d := 19) (vs := [.ref 86, .int a1]) (by decide) g1 ⟨g0_r (by decide), g0_i (aw _).1 (aw _).2, rfl⟩ rfl
  obtain ⟨y2, z2⟩ := ev_det c2 c2'
  cases y2
  cases z2
  have b1 := good_int hg 1 1 rfl
  have b2 : (aRng 1 1) = (0, 900) := rfl
  rw [b2] at b1
  dsimp only at b1
  obtain ⟨n, hn⟩ := Int.eq_ofNat_of_zero_le b1.1
  have hn' : (I 1 1).toInt = n := hn
  have p1 : I1 86 1 = I 86 1 := fr_int f1 86 1 rfl
  have p2 : ∀ q, I1 87 q = I 87 q := fun q => kp_i f1 (c := 87) (k := q) (p := 265) rfl (by decide)
  have hb : bM I1 n = bX I n := by
    funext q
    unfold bM bX
    by_cases h : q < n
    · rw [if_pos h, if_pos h, p2]
      exact hT.1.1.2 q (by omega)
    · rw [if_neg h, if_neg h]
  have hm' : (I1 86 1).toInt = n := by rw [p1, ← hT.1.1.1]; exact hn
  have cc : ∀ q, I2 52 q = I1 52 q ∧ I1 117 q = I 117 q := fun q => ⟨kp_i f2 (c := 52) (k := q) (p := 121) rfl (by decide), kp_i f1 (c := 117) (k := q) (p := 300) rfl (by decide)⟩
  have u3 : I2 49 3 = I1 49 3 := fr_int f2 49 3 rfl
  have u51 : I1 86 51 = I 86 51 := fr_int f1 86 51 rfl
  obtain ⟨⟨hT1, ⟨np, nm, nn, l, hV⟩, hK, hF⟩, hN, hJ, hBl⟩ := hT
  have key : lwB I2 := by
    rcases hV with ⟨h8, h9, hV⟩ | ⟨h8, h9, hV⟩
    · obtain ⟨s1, s2, Ic, Ir, Jc, Jr, x1, x2, x3⟩ := fgt_3 (L := L) (xs := xs) (d := 15) (d' := 13) (Jc := J) (Jr := J1) (gd_of hg) (gd_of g1) h8 (by decide) (by omega) hn' hm' hb (VR_e_3 hV ⟨⟨rfl, rfl, rfl, rfl, rfl⟩, fun _ _ _ => rfl⟩ (RE_of f1 rfl)) a1
      obtain ⟨y1, y2⟩ := ev_det c1 (x1)
      obtain ⟨y3, y4⟩ := ev_det c2 (x2)
      have er1 := inj_rv y1
      have er2 := inj_rv y3
      have eI1 := inj_hI y2
      have eI2 := inj_hI y4
      rcases x3 with ⟨a1, a2, a3, a4⟩ | ⟨a1, a2, a3, a4⟩
      · exact lwB_e (by rw [u3, eI1]; exact a1) (by rw [eI2, a2]; exact u51) (fun q => by rw [(cc q).1, eI1]; exact a3 q) (fun q => by rw [eI2, a4 q]; exact (cc q).2) hBl
      · exact Or.inr ⟨by rw [u3, eI1]; exact a1, by rw [eI2]; exact a2, by rw [(cc 0).1, eI1, eI2]; exact a3, by rw [(cc 1).1, eI1, eI2]; exact a4⟩
    · obtain ⟨s1, s2, Ic, Ir, Jc, Jr, x1, x2, x3⟩ := fgt_23 (L := L) (xs := xs) (d := 15) (d' := 13) (Jc := J) (Jr := J1) (gd_of hg) (gd_of g1) h8 (by decide) (by omega) hn' hm' hb (VR_e_23 hV ⟨⟨rfl, rfl, rfl, rfl, rfl⟩, fun _ _ _ => rfl⟩ (RE_of f1 rfl)) a1
      obtain ⟨y1, y2⟩ := ev_det c1 (x1)
      obtain ⟨y3, y4⟩ := ev_det c2 (x2)
      have er1 := inj_rv y1
      have er2 := inj_rv y3
      have eI1 := inj_hI y2
      have eI2 := inj_hI y4
      rcases x3 with ⟨a1, a2, a3, a4⟩ | ⟨a1, a2, a3, a4⟩
      · exact lwB_e (by rw [u3, eI1]; exact a1) (by rw [eI2, a2]; exact u51) (fun q => by rw [(cc q).1, eI1]; exact a3 q) (fun q => by rw [eI2, a4 q]; exact (cc q).2) hBl
      · exact Or.inr ⟨by rw [u3, eI1]; exact a1, by rw [eI2]; exact a2, by rw [(cc 0).1, eI1, eI2]; exact a3, by rw [(cc 1).1, eI1, eI2]; exact a4⟩
  exact ⟨r1, r2, I1, I2, J1, J2, R1, R2, c1, c2, g1, g2, hT2, lwN_k f2 rfl (lwN_k f1 rfl hN), lwJ_k f2 rfl (lwJ_k f1 rfl hJ), key⟩
theorem sqm_believe {L : Nat} {xs : Nat → Int32} {I : Nat → Nat → Int32} {J : Nat → Nat → Int64} {R : Nat → Nat → Nat} (hg : aGood (124, I, J, R)) (hT : lwA I J R) (a1 : Int32) : ∃ (r1 r2 : Int32) (I1 I2 : Nat → Nat → Int32) (J1 J2 : Nat → Nat → Int64) (R1 R2 : Nat → Nat → Nat), xEv L xs 19 118 0 [.ref 0, .int a1] [] (124, I, J, R) (some (.int r1)) (124, I1, J1, R1) ∧ xEv L xs 19 220 0 [.ref 86, .int a1] [] (124, I1, J1, R1) (some (.int r2)) (124, I2, J2, R2) ∧ aGood (124, I1, J1, R1) ∧ aGood (124, I2, J2, R2) ∧ lwA I2 J2 R2 ∧ r2 = r1 := by
  obtain ⟨r1, r2, I1, I2, J1, J2, R1, R2, c1, c2, g1, g2, hT2⟩ := sp_believe (L := L) (xs := xs) hg hT.1 a1
  obtain ⟨r1', I1', J1', R1', c1', g1', f1, cs1, m1, q1⟩ := api (ol_533 500 (by decide)) (by decide) (L := L) (xs := xs) (d := 19) (vs := [.ref 0, .int a1]) (by decide) hg ⟨g0_r (by decide), g0_i (aw _).1 (aw _).2, rfl⟩ rfl
  obtain ⟨y1, z1⟩ := ev_det c1 c1'
  cases y1
  cases z1
  obtain ⟨r2', I2', J2', R2', c2', g2', f2, cs2, m2, q2⟩ := api (ol_533 501 (by decide)) (by decide) (L := L) (xs := xs) (d := 19) (vs := [.ref 86, .int a1]) (by decide) g1 ⟨g0_r (by decide), g0_i (aw _).1 (aw _).2, rfl⟩ rfl
  obtain ⟨y2, z2⟩ := ev_det c2 c2'
  cases y2
  cases z2
  have key : r2 = r1 := by
    obtain ⟨r, x1, x2⟩ := blv (L := L) (xs := xs) (d := 19) (d' := 18) (J := J) (gd_of hg) hT.2.2.2 a1
    obtain ⟨y1, y2⟩ := ev_det c1 x1
    cases y1
    cases y2
    obtain ⟨y3, y4⟩ := ev_det c2 x2
    cases y3
    rfl
  exact ⟨r1, r2, I1, I2, J1, J2, R1, R2, c1, c2, g1, g2, ⟨hT2, lwN_k f2 rfl (lwN_k f1 rfl hT.2.1), lwJ_k f2 rfl (lwJ_k f1 rfl hT.2.2.1), lwB_k f2 rfl (lwB_k f1 rfl hT.2.2.2)⟩, key⟩
theorem sqm_rule {L : Nat} {xs : Nat → Int32} {I : Nat → Nat → Int32} {J : Nat → Nat → Int64} {R : Nat → Nat → Nat} (hg : aGood (124, I, J, R)) (hT : lwA I J R) (a1 a2 a3 : Int32) : ∃ (r1 r2 : Int32) (I1 I2 : Nat → Nat → Int32) (J1 J2 : Nat → Nat → Int64) (R1 R2 : Nat → Nat → Nat), xEv L xs 19 119 0 [.ref 0, .int a1, .int a2, .int a3, xmk] [] (124, I, J, R) (some (.int r1)) (124, I1, J1, R1) ∧ xEv L xs 19 221 0 [.ref 86, .int a1, .int a2, .int a3, xmk] [] (124, I1, J1, R1) (some (.int r2)) (124, I2, J2, R2) ∧ aGood (124, I1, J1, R1) ∧ aGood (124, I2, J2, R2) ∧ lwA I2 J2 R2 ∧ r2 = r1 := by
  obtain ⟨r1, r2, I1, I2, J1, J2, R1, R2, c1, c2, g1, g2, hT2, e⟩ := sp_rule (L := L) (xs := xs) hg hT.1 a1 a2 a3
  obtain ⟨r1', I1', J1', R1', c1', g1', f1, cs1, m1, q1⟩ := api (ol_533 504 (by decide)) (by decide) (L := L) (xs := xs) (d := 19) (vs := [.ref 0, .int a1, .int a2, .int a3]) (by decide) hg ⟨g0_r (by decide), g0_i (aw _).1 (aw _).2, g0_i (aw _).1 (aw _).2, g0_i (aw _).1 (aw _).2, rfl⟩ rfl
  obtain ⟨y1, z1⟩ := ev_det c1 c1'
  cases y1
  cases z1
  obtain ⟨r2', I2', J2', R2', c2', g2', f2, cs2, m2, q2⟩ := api (ol_533 506 (by decide)) (by decide) (L := L) (xs := xs) (d := 19) (vs := [.ref 86, .int a1, .int a2, .int a3]) (by decide) g1 ⟨g0_r (by decide), g0_i (aw _).1 (aw _).2, g0_i (aw _).1 (aw _).2, g0_i (aw _).1 (aw _).2, rfl⟩ rfl
  obtain ⟨y2, z2⟩ := ev_det c2 c2'
  cases y2
  cases z2
  exact ⟨r1, r2, I1, I2, J1, J2, R1, R2, c1, c2, g1, g2, ⟨hT2, lwN_k f2 rfl (lwN_k f1 rfl hT.2.1), lwJ_k f2 rfl (lwJ_k f1 rfl hT.2.2.1), lwB_k f2 rfl (lwB_k f1 rfl hT.2.2.2)⟩, e⟩
theorem sqm_begin {L : Nat} {xs : Nat → Int32} {I : Nat → Nat → Int32} {J : Nat → Nat → Int64} {R : Nat → Nat → Nat} (hg : aGood (124, I, J, R)) (hT : lwA I J R) (a1 : Int32) : ∃ (r1 r2 : Int32) (I1 I2 : Nat → Nat → Int32) (J1 J2 : Nat → Nat → Int64) (R1 R2 : Nat → Nat → Nat), xEv L xs 19 120 0 [.ref 0, .int a1] [] (124, I, J, R) (some (.int r1)) (124, I1, J1, R1) ∧ xEv L xs 19 222 0 [.ref 86, .int a1, xmk] [] (124, I1, J1, R1) (some (.int r2)) (124, I2, J2, R2) ∧ aGood (124, I1, J1, R1) ∧ aGood (124, I2, J2, R2) ∧ lwA I2 J2 R2 ∧ r2 = r1 := by
  obtain ⟨r1, r2, I1, I2, J1, J2, R1, R2, c1, c2, g1, g2, hT2⟩ := sp_begin (L := L) (xs := xs) hg hT.1 a1
  obtain ⟨r1', I1', J1', R1', c1', g1', f1, cs1, m1, q1⟩ := api (ol_533 508 (by decide)) (by decide) (L := L) (xs := xs) (d := 19) (vs := [.ref 0, .int a1]) (by decide) hg ⟨g0_r (by decide), g0_i (aw _).1 (aw _).2, rfl⟩ rfl
  obtain ⟨y1, z1⟩ := ev_det c1 c1'
  cases y1
  cases z1
  obtain ⟨r2', I2', J2', R2', c2', g2', f2, cs2, m2, q2⟩ := api (ol_533 509 (by decide)) (by decide) (L := L) (xs := xs) (d := 19) (vs := [.ref 86, .int a1]) (by decide) g1 ⟨g0_r (by decide), g0_i (aw _).1 (aw _).2, rfl⟩ rfl
  obtain ⟨y2, z2⟩ := ev_det c2 c2'
  cases y2
  cases z2
  have hG := gd_of hg
  have hG1 := gd_of g1
  have s1 := slt_k f1 rfl
  have s2 := slt_k f2 rfl
  have u4 : I2 66 4 = I1 66 4 := fr_int f2 66 4 rfl
  have u5 : I2 66 5 = I1 66 5 := fr_int f2 66 5 rfl
  have e88 : I1 88 2 = I 88 2 := fr_int f1 88 2 rfl
  have key : r2 = r1 ∧ lwN I2 := by
    by_cases h : a1.toInt < 0
    · skip
      obtain ⟨y1, y2⟩ := ev_det c1 (bO_n_3 hG (by omega))
      obtain ⟨y3, y4⟩ := ev_det c2 (bN_n hG1 (by omega))
      have er1 := inj_rv y1
      have er2 := inj_rv y3
      have eI1 := inj_hI y2
      have eI2 := inj_hI y4
      exact ⟨by rw [er1, er2], by rw [eI2, eI1]; exact hT.2.1⟩
    obtain ⟨hT1, ⟨np, nm, nn, l, hV⟩, hK, hF⟩ := hT.1
    rcases hV with ⟨h8, h9, hV⟩ | ⟨h8, h9, hV⟩
    · have q5 : (I 3 16).toInt = nn := hV.2.2.2.2.2.2.1.1
      have q6 : (I 88 2).toInt = nn := hV.2.2.2.2.2.2.1.2
      obtain ⟨Ic, Jc, x1, x2, x3, -⟩ := bgc_3 (L := L) (xs := xs) (d := 17) (J := J) hG h8 q5 (a := a1) (by omega)
      obtain ⟨Ir, Jr, w1, w2, w3, -⟩ := bgr (L := L) (xs := xs) (d := 17) (I := I1) (J := J1) hG1 (by rw [e88]; exact q6) (a := a1) (by omega)
      obtain ⟨y1, y2⟩ := ev_det c1 (x1)
      obtain ⟨y3, y4⟩ := ev_det c2 (w1)
      have er1 := inj_rv y1
      have er2 := inj_rv y3
      have eI1 := inj_hI y2
      have eI2 := inj_hI y4
      refine ⟨by rw [er1, er2], lwN_s (fun c q hc => (s2 c q hc).trans (s1 c q hc)) (Or.inr ⟨by rw [u4, eI1]; exact x2, by rw [eI2]; exact w2, by rw [eI2]; exact w2, ?_⟩) hT.2.1⟩
      rw [u5, eI1, x3, eI2]
      exact w3.symm
    · have q5 : (I 23 16).toInt = nn := hV.2.2.2.2.2.2.1.1
      have q6 : (I 88 2).toInt = nn := hV.2.2.2.2.2.2.1.2
      obtain ⟨Ic, Jc, x1, x2, x3, -⟩ := bgc_23 (L := L) (xs := xs) (d := 17) (J := J) hG h8 q5 (a := a1) (by omega)
      obtain ⟨Ir, Jr, w1, w2, w3, -⟩ := bgr (L := L) (xs := xs) (d := 17) (I := I1) (J := J1) hG1 (by rw [e88]; exact q6) (a := a1) (by omega)
      obtain ⟨y1, y2⟩ := ev_det c1 (x1)
      obtain ⟨y3, y4⟩ := ev_det c2 (w1)
      have er1 := inj_rv y1
      have er2 := inj_rv y3
      have eI1 := inj_hI y2
      have eI2 := inj_hI y4
      refine ⟨by rw [er1, er2], lwN_s (fun c q hc => (s2 c q hc).trans (s1 c q hc)) (Or.inr ⟨by rw [u4, eI1]; exact x2, by rw [eI2]; exact w2, by rw [eI2]; exact w2, ?_⟩) hT.2.1⟩
      rw [u5, eI1, x3, eI2]
      exact w3.symm
  exact ⟨r1, r2, I1, I2, J1, J2, R1, R2, c1, c2, g1, g2, ⟨hT2, key.2, lwJ_k f2 rfl (lwJ_k f1 rfl hT.2.2.1), lwB_k f2 rfl (lwB_k f1 rfl hT.2.2.2)⟩, key.1⟩
theorem sqm_go {L : Nat} {xs : Nat → Int32} {I : Nat → Nat → Int32} {J : Nat → Nat → Int64} {R : Nat → Nat → Nat} (hg : aGood (124, I, J, R)) (hT : lwA I J R) (a1 : Int32) : ∃ (r1 r2 : Int32) (I1 I2 : Nat → Nat → Int32) (J1 J2 : Nat → Nat → Int64) (R1 R2 : Nat → Nat → Nat), xEv L xs 19 122 0 [.ref 0, .int a1, xmk] [] (124, I, J, R) (some (.int r1)) (124, I1, J1, R1) ∧ xEv L xs 19 223 0 [.ref 86, .int a1, xmk] [] (124, I1, J1, R1) (some (.int r2)) (124, I2, J2, R2) ∧ aGood (124, I1, J1, R1) ∧ aGood (124, I2, J2, R2) ∧ lwA I2 J2 R2 ∧ r2 = r1 := by
  obtain ⟨r1, r2, I1, I2, J1, J2, R1, R2, c1, c2, g1, g2, hT2⟩ := sp_go (L := L) (xs := xs) hg hT.1 a1
  obtain ⟨r1', I1', J1', R1', c1', g1', f1, cs1, m1, q1⟩ := api (ol_533 510 (by decide)) (by decide) (L := L) (xs := xs) (d := 19) (vs := [.ref 0, .int a1]) (by decide) hg ⟨g0_r (by decide), g0_i (aw _).1 (aw _).2, rfl⟩ rfl
  obtain ⟨y1, z1⟩ := ev_det c1 c1'
  cases y1
  cases z1
  obtain ⟨r2', I2', J2', R2', c2', g2', f2, cs2, m2, q2⟩ := api (ol_533 511 (by decide)) (by decide) (L := L) (xs := xs) (d := 19) (vs := [.ref 86, .int a1]) (by decide) g1 ⟨g0_r (by decide), g0_i (aw _).1 (aw _).2, rfl⟩ rfl
  obtain ⟨y2, z2⟩ := ev_det c2 c2'
  cases y2
  cases z2
  have hG := gd_of hg
  have hG1 := gd_of g1
  have s1 := slt_k f1 rfl
  have s2 := slt_k f2 rfl
  have a121 : I1 121 0 = I 121 0 := fr_int f1 121 0 rfl
  have b121 : I1 121 1 = I 121 1 := fr_int f1 121 1 rfl
  have k26 : I1 86 26 = I 86 26 := fr_int f1 86 26 rfl
  have u4 : I2 66 4 = I1 66 4 := fr_int f2 66 4 rfl
  have u5 : I2 66 5 = I1 66 5 := fr_int f2 66 5 rfl
  have i0 := in_ex (L := L) (xs := xs) (d := 18) (I := I1) (J := J1) hG1 a1 0 64
  rw [show (0 : Int32).toInt = 0 from by decide, show (64 : Int32).toInt = 64 from by decide] at i0
  have same : r1 = r2 → I1 = I → I2 = I1 → r2 = r1 ∧ lwN I2 := fun h1 h2 h3 => ⟨h1.symm, by rw [h3, h2]; exact hT.2.1⟩
  have key : r2 = r1 ∧ lwN I2 := by
    rcases i0 with ⟨h, x⟩ | ⟨h, x⟩
    rotate_left
    · by_cases h1 : a1.toInt < 0
      · skip
        obtain ⟨y1, y2⟩ := ev_det c1 (sg_go1 hG h1)
        obtain ⟨y3, y4⟩ := ev_det c2 (sg_mg1 hG1 x)
        have er1 := inj_rv y1
        have er2 := inj_rv y3
        have eI1 := inj_hI y2
        have eI2 := inj_hI y4
        exact same (by rw [er1, er2]) eI1 eI2
      · skip
        obtain ⟨y1, y2⟩ := ev_det c1 (sg_go2 hG (by omega) (by omega))
        obtain ⟨y3, y4⟩ := ev_det c2 (sg_mg1 hG1 x)
        have er1 := inj_rv y1
        have er2 := inj_rv y3
        have eI1 := inj_hI y2
        have eI2 := inj_hI y4
        exact same (by rw [er1, er2]) eI1 eI2
    rcases hT.2.1.1 with ⟨n1, n2⟩ | ⟨n1, n2, -, n4⟩
    · skip
      obtain ⟨y1, y2⟩ := ev_det c1 (sg_go3 hG (by omega) (by omega) (by rw [n1]; decide))
      obtain ⟨y3, y4⟩ := ev_det c2 (sg_mg2 hG1 x (by rw [a121, n2]; decide))
      have er1 := inj_rv y1
      have er2 := inj_rv y3
      have eI1 := inj_hI y2
      have eI2 := inj_hI y4
      exact same (by rw [er1, er2]) eI1 eI2
    have hy := good_int hg 66 5 rfl
    have hy2 : (aRng 66 5) = (0, 64) := rfl
    rw [hy2] at hy
    dsimp only at hy
    have n5 : (I 66 5).toInt = (I 121 1).toInt := by rw [n4]
    have b121' : (I1 121 1).toInt = (I 121 1).toInt := by rw [b121]
    obtain ⟨hT1, ⟨np, nm, nn, l, hV⟩, hK, hF⟩ := hT.1
    have big : ∀ (I' I'' : Nat → Nat → Int32), r1 = I' 66 5 → I1 = I' → (I' 66 5).toInt = (I 66 5).toInt + a1.toInt → I' 66 4 = I 66 4 → r2 = I'' 121 1 → I2 = I'' → (I'' 121 1).toInt = (I1 121 1).toInt + a1.toInt → I'' 121 0 = I1 121 0 → r2 = r1 ∧ lwN I2 := by
      intro I' I'' e1 e2 e3 e4 e5 e6 e7 e8
      have e9 : I' 66 5 = I'' 121 1 := Int32.toInt_inj.mp (by rw [e3, e7, b121, n5])
      refine ⟨by rw [e1, e5, e9], lwN_s (fun c q hc => (s2 c q hc).trans (s1 c q hc)) (Or.inr ⟨by rw [u4, e2, e4, n1], by rw [e6, e8, a121, n2], by rw [e6, e8, a121, n2], ?_⟩) hT.2.1⟩
      rw [u5, e2, e9, e6]
    rcases hV with ⟨h8, h9, hV⟩ | ⟨h8, h9, hV⟩
    · have q10 : (I 17 5).toInt = l.length := hV.2.2.2.2.2.2.2.2.2.2.1.1
      have q11 : (I 86 26).toInt = l.length := hV.2.2.2.2.2.2.2.2.2.2.1.2
      have p4 : l.length ≤ 64 := hV.2.1
      have es : (I 17 5 - I 66 5).toInt = (I 17 5).toInt - (I 66 5).toInt := i_sub (by omega) (by omega)
      have ea : (I1 121 1 + a1).toInt = (I1 121 1).toInt + a1.toInt := i_add (by rw [b121]; omega) (by rw [b121]; omega)
      by_cases h4 : a1.toInt > (I 17 5 - I 66 5).toInt
      · skip
        obtain ⟨y1, y2⟩ := ev_det c1 (sg_go4_3 hG (by omega) (by omega) (by rw [n1]; decide) h8 h4)
        obtain ⟨y3, y4⟩ := ev_det c2 (sg_mg3 hG1 x (by rw [a121, n2]; decide) (by rw [k26]; omega))
        have er1 := inj_rv y1
        have er2 := inj_rv y3
        have eI1 := inj_hI y2
        have eI2 := inj_hI y4
        exact same (by rw [er1, er2]) eI1 eI2
      · have hz : (0 : Int32).toInt = 0 := by decide
        obtain ⟨I', J', R', x1, x2, x3⟩ := gox_3 (ol_533 111 (by decide)) (L := L) (xs := xs) (d := 18) (by decide) (n := a1) h.2 _ 0 I J R rfl (by decide) (by rw [hz]; omega) hg h8 (by rw [hz]; omega)
        obtain ⟨I'', J'', R'', x4, x5, x6⟩ := gmx (ol_533 51 (by decide)) (ol_533 60 (by decide)) (L := L) (xs := xs) (d := 18) (by decide) (n := a1) h.2 _ 0 I1 J1 R1 rfl (by decide) (by rw [hz]; omega) g1 (by rw [hz, k26, b121]; omega)
        rw [hz] at x2 x5
        obtain ⟨y1, y2⟩ := ev_det c1 (sg_go5_3 hG (by omega) (by omega) (by rw [n1]; decide) h8 (by omega) x1)
        obtain ⟨y3, y4⟩ := ev_det c2 (sg_mg4 hG1 x (by rw [a121, n2]; decide) (by rw [k26]; omega) x4)
        have er1 := inj_rv y1
        have er2 := inj_rv y3
        have eI1 := inj_hI y2
        have eI2 := inj_hI y4
        exact big I' I'' er1 eI1 (by omega) x3 er2 eI2 (by omega) x6
    · have q10 : (I 37 5).toInt = l.length := hV.2.2.2.2.2.2.2.2.2.2.1.1
      have q11 : (I 86 26).toInt = l.length := hV.2.2.2.2.2.2.2.2.2.2.1.2
      have p4 : l.length ≤ 64 := hV.2.1
      have es : (I 37 5 - I 66 5).toInt = (I 37 5).toInt - (I 66 5).toInt := i_sub (by omega) (by omega)
      have ea : (I1 121 1 + a1).toInt = (I1 121 1).toInt + a1.toInt := i_add (by rw [b121]; omega) (by rw [b121]; omega)
      by_cases h4 : a1.toInt > (I 37 5 - I 66 5).toInt
      · skip
        obtain ⟨y1, y2⟩ := ev_det c1 (sg_go4_23 hG (by omega) (by omega) (by rw [n1]; decide) h8 h4)
        obtain ⟨y3, y4⟩ := ev_det c2 (sg_mg3 hG1 x (by rw [a121, n2]; decide) (by rw [k26]; omega))
        have er1 := inj_rv y1
        have er2 := inj_rv y3
        have eI1 := inj_hI y2
        have eI2 := inj_hI y4
        exact same (by rw [er1, er2]) eI1 eI2
      · have hz : (0 : Int32).toInt = 0 := by decide
        obtain ⟨I', J', R', x1, x2, x3⟩ := gox_23 (ol_533 111 (by decide)) (L := L) (xs := xs) (d := 18) (by decide) (n := a1) h.2 _ 0 I J R rfl (by decide) (by rw [hz]; omega) hg h8 (by rw [hz]; omega)
        obtain ⟨I'', J'', R'', x4, x5, x6⟩ := gmx (ol_533 51 (by decide)) (ol_533 60 (by decide)) (L := L) (xs := xs) (d := 18) (by decide) (n := a1) h.2 _ 0 I1 J1 R1 rfl (by decide) (by rw [hz]; omega) g1 (by rw [hz, k26, b121]; omega)
        rw [hz] at x2 x5
        obtain ⟨y1, y2⟩ := ev_det c1 (sg_go5_23 hG (by omega) (by omega) (by rw [n1]; decide) h8 (by omega) x1)
        obtain ⟨y3, y4⟩ := ev_det c2 (sg_mg4 hG1 x (by rw [a121, n2]; decide) (by rw [k26]; omega) x4)
        have er1 := inj_rv y1
        have er2 := inj_rv y3
        have eI1 := inj_hI y2
        have eI2 := inj_hI y4
        exact big I' I'' er1 eI1 (by omega) x3 er2 eI2 (by omega) x6
  exact ⟨r1, r2, I1, I2, J1, J2, R1, R2, c1, c2, g1, g2, ⟨hT2, key.2, lwJ_k f2 rfl (lwJ_k f1 rfl hT.2.2.1), lwB_k f2 rfl (lwB_k f1 rfl hT.2.2.2)⟩, key.1⟩
theorem sqm_now {L : Nat} {xs : Nat → Int32} {I : Nat → Nat → Int32} {J : Nat → Nat → Int64} {R : Nat → Nat → Nat} (hg : aGood (124, I, J, R)) (hT : lwA I J R) (a1 a2 : Int32) : ∃ (r1 r2 : Int32) (I1 I2 : Nat → Nat → Int32) (J1 J2 : Nat → Nat → Int64) (R1 R2 : Nat → Nat → Nat), xEv L xs 19 133 0 [.ref 0, .int a1, .int a2] [] (124, I, J, R) (some (.int r1)) (124, I1, J1, R1) ∧ xEv L xs 19 231 0 [.ref 86, .int a1, .int a2] [] (124, I1, J1, R1) (some (.int r2)) (124, I2, J2, R2) ∧ aGood (124, I1, J1, R1) ∧ aGood (124, I2, J2, R2) ∧ lwA I2 J2 R2 := by
  obtain ⟨r1, r2, I1, I2, J1, J2, R1, R2, c1, c2, g1, g2, hT2⟩ := sp_now (L := L) (xs := xs) hg hT.1 a1 a2
  obtain ⟨r1', I1', J1', R1', c1', g1', f1, cs1, m1, q1⟩ := api (ol_533 512 (by decide)) (by decide) (L := L) (xs := xs) (d := 19) (vs := [.ref 0, .int a1, .int a2]) (by decide) hg ⟨g0_r (by decide), g0_i (aw _).1 (aw _).2, g0_i (aw _).1 (aw _).2, rfl⟩ rfl
  obtain ⟨y1, z1⟩ := ev_det c1 c1'
  cases y1
  cases z1
  obtain ⟨r2', I2', J2', R2', c2', g2', f2, cs2, m2, q2⟩ := api (ol_533 514 (by decide)) (by decide) (L := L) (xs := xs) (d := 19) (vs := [.ref 86, .int a1, .int a2]) (by decide) g1 ⟨g0_r (by decide), g0_i (aw _).1 (aw _).2, g0_i (aw _).1 (aw _).2, rfl⟩ rfl
  obtain ⟨y2, z2⟩ := ev_det c2 c2'
  cases y2
  cases z2
  exact ⟨r1, r2, I1, I2, J1, J2, R1, R2, c1, c2, g1, g2, ⟨hT2, lwN_k f2 rfl (lwN_k f1 rfl hT.2.1), lwJ_k f2 rfl (lwJ_k f1 rfl hT.2.2.1), lwB_k f2 rfl (lwB_k f1 rfl hT.2.2.2)⟩⟩
theorem sqm_head {L : Nat} {xs : Nat → Int32} {I : Nat → Nat → Int32} {J : Nat → Nat → Int64} {R : Nat → Nat → Nat} (hg : aGood (124, I, J, R)) (hT : lwA I J R) (a1 a2 : Int32) : ∃ (r1 r2 : Int32) (I1 I2 : Nat → Nat → Int32) (J1 J2 : Nat → Nat → Int64) (R1 R2 : Nat → Nat → Nat), xEv L xs 19 134 0 [.ref 0, .int a1, .int a2] [] (124, I, J, R) (some (.int r1)) (124, I1, J1, R1) ∧ xEv L xs 19 232 0 [.ref 86, .int a1, .int a2] [] (124, I1, J1, R1) (some (.int r2)) (124, I2, J2, R2) ∧ aGood (124, I1, J1, R1) ∧ aGood (124, I2, J2, R2) ∧ lwA I2 J2 R2 := by
  obtain ⟨r1, r2, I1, I2, J1, J2, R1, R2, c1, c2, g1, g2, hT2⟩ := sp_head (L := L) (xs := xs) hg hT.1 a1 a2
  obtain ⟨r1', I1', J1', R1', c1', g1', f1, cs1, m1, q1⟩ := api (ol_533 516 (by decide)) (by decide) (L := L) (xs := xs) (d := 19) (vs := [.ref 0, .int a1, .int a2]) (by decide) hg ⟨g0_r (by decide), g0_i (aw _).1 (aw _).2, g0_i (aw _).1 (aw _).2, rfl⟩ rfl
  obtain ⟨y1, z1⟩ := ev_det c1 c1'
  cases y1
  cases z1
  obtain ⟨r2', I2', J2', R2', c2', g2', f2, cs2, m2, q2⟩ := api (ol_533 518 (by decide)) (by decide) (L := L) (xs := xs) (d := 19) (vs := [.ref 86, .int a1, .int a2]) (by decide) g1 ⟨g0_r (by decide), g0_i (aw _).1 (aw _).2, g0_i (aw _).1 (aw _).2, rfl⟩ rfl
  obtain ⟨y2, z2⟩ := ev_det c2 c2'
  cases y2
  cases z2
  exact ⟨r1, r2, I1, I2, J1, J2, R1, R2, c1, c2, g1, g2, ⟨hT2, lwN_k f2 rfl (lwN_k f1 rfl hT.2.1), lwJ_k f2 rfl (lwJ_k f1 rfl hT.2.2.1), lwB_k f2 rfl (lwB_k f1 rfl hT.2.2.2)⟩⟩
theorem sqm_keep {L : Nat} {xs : Nat → Int32} {I : Nat → Nat → Int32} {J : Nat → Nat → Int64} {R : Nat → Nat → Nat} (hg : aGood (124, I, J, R)) (hT : lwA I J R) (a1 : Int32) : ∃ (r1 r2 : Int32) (I1 I2 : Nat → Nat → Int32) (J1 J2 : Nat → Nat → Int64) (R1 R2 : Nat → Nat → Nat), xEv L xs 19 135 0 [.ref 0, .int a1, xmk] [] (124, I, J, R) (some (.int r1)) (124, I1, J1, R1) ∧ xEv L xs 19 233 0 [.ref 86, .int a1, xmk] [] (124, I1, J1, R1) (some (.int r2)) (124, I2, J2, R2) ∧ aGood (124, I1, J1, R1) ∧ aGood (124, I2, J2, R2) ∧ lwA I2 J2 R2 ∧ r2 = r1 := by
  obtain ⟨r1, r2, I1, I2, J1, J2, R1, R2, c1, c2, g1, g2, hT2⟩ := sp_keep (L := L) (xs := xs) hg hT.1 a1
  obtain ⟨r1', I1', J1', R1', c1', g1', f1, cs1, m1, q1⟩ := api (ol_533 521 (by decide)) (by decide) (L := L) (xs := xs) (d := 19) (vs := [.ref 0, .int a1]) (by decide) hg ⟨g0_r (by decide), g0_i (aw _).1 (aw _).2, rfl⟩ rfl
  obtain ⟨y1, z1⟩ := ev_det c1 c1'
  cases y1
  cases z1
  obtain ⟨r2', I2', J2', R2', c2', g2', f2, cs2, m2, q2⟩ := api (ol_533 523 (by decide)) (by decide) (L := L) (xs := xs) (d := 19) (vs := [.ref 86, .int a1]) (by decide) g1 ⟨g0_r (by decide), g0_i (aw _).1 (aw _).2, rfl⟩ rfl
  obtain ⟨y2, z2⟩ := ev_det c2 c2'
  cases y2
  cases z2
  have hG := gd_of hg
  have hG1 := gd_of g1
  have a121 : ∀ q, q < 100 → I1 121 q = I 121 q := fun q hq => kp_c121 f1 rfl q hq
  have a123 : ∀ q, I1 123 q = I 123 q := fun q => kp_i f1 (c := 123) (k := q) (p := 405) rfl (by decide)
  have u4 : ∀ c q, (c = 66 ∨ c = 71 ∨ c = 76 ∨ c = 81) → (q = 4 ∨ q = 5) → I2 c q = I1 c q := kp_cr f2 rfl
  have key : r2 = r1 ∧ lwN I2 := by
    by_cases h : 0 ≤ a1.toInt ∧ a1.toInt ≤ 2
    rotate_left
    · have x := isl (L := L) (xs := xs) (d := 17) (I := I1) (J := J1) hG1 h
      by_cases h1 : a1.toInt < 0
      · skip
        obtain ⟨y1, y2⟩ := ev_det c1 (kX_n hG h1)
        obtain ⟨y3, y4⟩ := ev_det c2 (kM_n hG1 x)
        have er1 := inj_rv y1
        have er2 := inj_rv y3
        have eI1 := inj_hI y2
        have eI2 := inj_hI y4
        exact ⟨by rw [er1, er2], by rw [eI2, eI1]; exact hT.2.1⟩
      · skip
        obtain ⟨y1, y2⟩ := ev_det c1 (kX_b hG (by omega) (by omega))
        obtain ⟨y3, y4⟩ := ev_det c2 (kM_n hG1 x)
        have er1 := inj_rv y1
        have er2 := inj_rv y3
        have eI1 := inj_hI y2
        have eI2 := inj_hI y4
        exact ⟨by rw [er1, er2], by rw [eI2, eI1]; exact hT.2.1⟩
    have h3 : a1 = 0 ∨ a1 = 1 ∨ a1 = 2 := by
      have h3 : a1.toInt = 0 ∨ a1.toInt = 1 ∨ a1.toInt = 2 := by omega
      rcases h3 with h3 | h3 | h3
      · exact Or.inl (Int32.toInt_inj.mp h3)
      · exact Or.inr (Or.inl (Int32.toInt_inj.mp h3))
      · exact Or.inr (Or.inr (Int32.toInt_inj.mp h3))
    obtain ⟨m0, m1', m2', m3'⟩ := hT.2.1
    rcases h3 with rfl | rfl | rfl
    · rcases m0 with ⟨n1, n2⟩ | ⟨n1, n2, n3, n4⟩
      · skip
        obtain ⟨y1, y2⟩ := ev_det c1 (kX_o0 hG (by rw [n1]; decide))
        obtain ⟨y3, y4⟩ := ev_det c2 (kM_o0 hG1 (isl_0 hG1) (by rw [a121 0 (by decide), n2]; decide))
        have er1 := inj_rv y1
        have er2 := inj_rv y3
        have eI1 := inj_hI y2
        have eI2 := inj_hI y4
        exact ⟨by rw [er1, er2], by rw [eI2, eI1]; exact hT.2.1⟩
      · obtain ⟨Ic, Jc, x1, ⟨x2, x3, -⟩, x4, x5, x6, x7⟩ := kx_0 (L := L) (xs := xs) (d := 17) (J := J) hG n1
        obtain ⟨Ir, Jr, w1, w2, w3, w4, w5⟩ := km_0 (L := L) (xs := xs) (d := 17) (I := I1) (J := J1) hG1 (by rw [a121 0 (by decide), n2]; decide)
        obtain ⟨y1, y2⟩ := ev_det c1 (x1)
        obtain ⟨y3, y4⟩ := ev_det c2 (w1)
        have er1 := inj_rv y1
        have er2 := inj_rv y3
        have eI1 := inj_hI y2
        have eI2 := inj_hI y4
        refine ⟨by rw [er1, er2, a121 1 (by decide)]; exact n4.symm, ?_⟩
        have e121 : ∀ q, q < 100 → I2 121 q = if 25 ≤ q ∧ q < 25 + 25 then I 121 (q - 25) else I 121 q := by
          intro q hq
          rw [eI2, w5 q hq]
          by_cases hc : 25 ≤ q ∧ q < 25 + 25
          · rw [if_pos hc, if_pos hc, a121 _ (by omega)]
          · rw [if_neg hc, if_neg hc, a121 _ hq]
        have e4 : ∀ c q, (c = 66 ∨ c = 71 ∨ c = 76 ∨ c = 81) → (q = 4 ∨ q = 5) → I2 c q = Ic c q := fun c q h1 h2 => by rw [u4 c q h1 h2, eI1]
        have new : rnC 71 25 (I2 123 0) I2 := Or.inr ⟨by rw [e4 71 4 (by omega) (by omega), x2]; exact n1, by rw [eI2]; exact w2, by rw [e121 25 (by decide), if_pos (by decide)]; exact n2, by rw [e4 71 5 (by omega) (by omega), x3, e121 (25 + 1) (by decide), if_pos (by decide)]; exact n4⟩
        have run : rnC 66 0 (I2 121 0) I2 := Or.inr ⟨by rw [e4 66 4 (by omega) (by omega), x4.1]; exact n1, by rw [e121 0 (by decide), if_neg (by decide)]; exact n2, by rw [e121 0 (by decide), if_neg (by decide)]; exact n2, by rw [e4 66 5 (by omega) (by omega), x4.2.1, e121 (0 + 1) (by decide), if_neg (by decide)]; exact n4⟩
        have oth1 : rnC 76 50 (I2 123 1) I2 := by
          unfold rnC at *
          rw [e4 76 4 (by omega) (by omega), e4 76 5 (by omega) (by omega), x5.1, x5.2.1, e121 50 (by decide), e121 (50 + 1) (by decide), if_neg (by decide), if_neg (by decide), eI2, w4.1, a123]
          exact m2'
        have oth2 : rnC 81 75 (I2 123 2) I2 := by
          unfold rnC at *
          rw [e4 81 4 (by omega) (by omega), e4 81 5 (by omega) (by omega), x6.1, x6.2.1, e121 75 (by decide), e121 (75 + 1) (by decide), if_neg (by decide), if_neg (by decide), eI2, w4.2, a123]
          exact m3'
        exact ⟨run, new, oth1, oth2⟩
    · rcases m0 with ⟨n1, n2⟩ | ⟨n1, n2, n3, n4⟩
      · skip
        obtain ⟨y1, y2⟩ := ev_det c1 (kX_o1 hG (by rw [n1]; decide))
        obtain ⟨y3, y4⟩ := ev_det c2 (kM_o1 hG1 (isl_1 hG1) (by rw [a121 0 (by decide), n2]; decide))
        have er1 := inj_rv y1
        have er2 := inj_rv y3
        have eI1 := inj_hI y2
        have eI2 := inj_hI y4
        exact ⟨by rw [er1, er2], by rw [eI2, eI1]; exact hT.2.1⟩
      · obtain ⟨Ic, Jc, x1, ⟨x2, x3, -⟩, x4, x5, x6, x7⟩ := kx_1 (L := L) (xs := xs) (d := 17) (J := J) hG n1
        obtain ⟨Ir, Jr, w1, w2, w3, w4, w5⟩ := km_1 (L := L) (xs := xs) (d := 17) (I := I1) (J := J1) hG1 (by rw [a121 0 (by decide), n2]; decide)
        obtain ⟨y1, y2⟩ := ev_det c1 (x1)
        obtain ⟨y3, y4⟩ := ev_det c2 (w1)
        have er1 := inj_rv y1
        have er2 := inj_rv y3
        have eI1 := inj_hI y2
        have eI2 := inj_hI y4
        refine ⟨by rw [er1, er2, a121 1 (by decide)]; exact n4.symm, ?_⟩
        have e121 : ∀ q, q < 100 → I2 121 q = if 50 ≤ q ∧ q < 50 + 25 then I 121 (q - 50) else I 121 q := by
          intro q hq
          rw [eI2, w5 q hq]
          by_cases hc : 50 ≤ q ∧ q < 50 + 25
          · rw [if_pos hc, if_pos hc, a121 _ (by omega)]
          · rw [if_neg hc, if_neg hc, a121 _ hq]
        have e4 : ∀ c q, (c = 66 ∨ c = 71 ∨ c = 76 ∨ c = 81) → (q = 4 ∨ q = 5) → I2 c q = Ic c q := fun c q h1 h2 => by rw [u4 c q h1 h2, eI1]
        have new : rnC 76 50 (I2 123 1) I2 := Or.inr ⟨by rw [e4 76 4 (by omega) (by omega), x2]; exact n1, by rw [eI2]; exact w2, by rw [e121 50 (by decide), if_pos (by decide)]; exact n2, by rw [e4 76 5 (by omega) (by omega), x3, e121 (50 + 1) (by decide), if_pos (by decide)]; exact n4⟩
        have run : rnC 66 0 (I2 121 0) I2 := Or.inr ⟨by rw [e4 66 4 (by omega) (by omega), x4.1]; exact n1, by rw [e121 0 (by decide), if_neg (by decide)]; exact n2, by rw [e121 0 (by decide), if_neg (by decide)]; exact n2, by rw [e4 66 5 (by omega) (by omega), x4.2.1, e121 (0 + 1) (by decide), if_neg (by decide)]; exact n4⟩
        have oth0 : rnC 71 25 (I2 123 0) I2 := by
          unfold rnC at *
          rw [e4 71 4 (by omega) (by omega), e4 71 5 (by omega) (by omega), x5.1, x5.2.1, e121 25 (by decide), e121 (25 + 1) (by decide), if_neg (by decide), if_neg (by decide), eI2, w4.1, a123]
          exact m1'
        have oth2 : rnC 81 75 (I2 123 2) I2 := by
          unfold rnC at *
          rw [e4 81 4 (by omega) (by omega), e4 81 5 (by omega) (by omega), x6.1, x6.2.1, e121 75 (by decide), e121 (75 + 1) (by decide), if_neg (by decide), if_neg (by decide), eI2, w4.2, a123]
          exact m3'
        exact ⟨run, oth0, new, oth2⟩
    · rcases m0 with ⟨n1, n2⟩ | ⟨n1, n2, n3, n4⟩
      · skip
        obtain ⟨y1, y2⟩ := ev_det c1 (kX_o2 hG (by rw [n1]; decide))
        obtain ⟨y3, y4⟩ := ev_det c2 (kM_o2 hG1 (isl_2 hG1) (by rw [a121 0 (by decide), n2]; decide))
        have er1 := inj_rv y1
        have er2 := inj_rv y3
        have eI1 := inj_hI y2
        have eI2 := inj_hI y4
        exact ⟨by rw [er1, er2], by rw [eI2, eI1]; exact hT.2.1⟩
      · obtain ⟨Ic, Jc, x1, ⟨x2, x3, -⟩, x4, x5, x6, x7⟩ := kx_2 (L := L) (xs := xs) (d := 17) (J := J) hG n1
        obtain ⟨Ir, Jr, w1, w2, w3, w4, w5⟩ := km_2 (L := L) (xs := xs) (d := 17) (I := I1) (J := J1) hG1 (by rw [a121 0 (by decide), n2]; decide)
        obtain ⟨y1, y2⟩ := ev_det c1 (x1)
        obtain ⟨y3, y4⟩ := ev_det c2 (w1)
        have er1 := inj_rv y1
        have er2 := inj_rv y3
        have eI1 := inj_hI y2
        have eI2 := inj_hI y4
        refine ⟨by rw [er1, er2, a121 1 (by decide)]; exact n4.symm, ?_⟩
        have e121 : ∀ q, q < 100 → I2 121 q = if 75 ≤ q ∧ q < 75 + 25 then I 121 (q - 75) else I 121 q := by
          intro q hq
          rw [eI2, w5 q hq]
          by_cases hc : 75 ≤ q ∧ q < 75 + 25
          · rw [if_pos hc, if_pos hc, a121 _ (by omega)]
          · rw [if_neg hc, if_neg hc, a121 _ hq]
        have e4 : ∀ c q, (c = 66 ∨ c = 71 ∨ c = 76 ∨ c = 81) → (q = 4 ∨ q = 5) → I2 c q = Ic c q := fun c q h1 h2 => by rw [u4 c q h1 h2, eI1]
        have new : rnC 81 75 (I2 123 2) I2 := Or.inr ⟨by rw [e4 81 4 (by omega) (by omega), x2]; exact n1, by rw [eI2]; exact w2, by rw [e121 75 (by decide), if_pos (by decide)]; exact n2, by rw [e4 81 5 (by omega) (by omega), x3, e121 (75 + 1) (by decide), if_pos (by decide)]; exact n4⟩
        have run : rnC 66 0 (I2 121 0) I2 := Or.inr ⟨by rw [e4 66 4 (by omega) (by omega), x4.1]; exact n1, by rw [e121 0 (by decide), if_neg (by decide)]; exact n2, by rw [e121 0 (by decide), if_neg (by decide)]; exact n2, by rw [e4 66 5 (by omega) (by omega), x4.2.1, e121 (0 + 1) (by decide), if_neg (by decide)]; exact n4⟩
        have oth0 : rnC 71 25 (I2 123 0) I2 := by
          unfold rnC at *
          rw [e4 71 4 (by omega) (by omega), e4 71 5 (by omega) (by omega), x5.1, x5.2.1, e121 25 (by decide), e121 (25 + 1) (by decide), if_neg (by decide), if_neg (by decide), eI2, w4.1, a123]
          exact m1'
        have oth1 : rnC 76 50 (I2 123 1) I2 := by
          unfold rnC at *
          rw [e4 76 4 (by omega) (by omega), e4 76 5 (by omega) (by omega), x6.1, x6.2.1, e121 50 (by decide), e121 (50 + 1) (by decide), if_neg (by decide), if_neg (by decide), eI2, w4.2, a123]
          exact m2'
        exact ⟨run, oth0, oth1, new⟩
  exact ⟨r1, r2, I1, I2, J1, J2, R1, R2, c1, c2, g1, g2, ⟨hT2, key.2, lwJ_k f2 rfl (lwJ_k f1 rfl hT.2.2.1), lwB_k f2 rfl (lwB_k f1 rfl hT.2.2.2)⟩, key.1⟩
theorem sqm_take {L : Nat} {xs : Nat → Int32} {I : Nat → Nat → Int32} {J : Nat → Nat → Int64} {R : Nat → Nat → Nat} (hg : aGood (124, I, J, R)) (hT : lwA I J R) (a1 : Int32) : ∃ (r1 r2 : Int32) (I1 I2 : Nat → Nat → Int32) (J1 J2 : Nat → Nat → Int64) (R1 R2 : Nat → Nat → Nat), xEv L xs 19 138 0 [.ref 0, .int a1, xmk] [] (124, I, J, R) (some (.int r1)) (124, I1, J1, R1) ∧ xEv L xs 19 235 0 [.ref 86, .int a1, xmk] [] (124, I1, J1, R1) (some (.int r2)) (124, I2, J2, R2) ∧ aGood (124, I1, J1, R1) ∧ aGood (124, I2, J2, R2) ∧ lwA I2 J2 R2 ∧ r2 = r1 := by
  obtain ⟨r1, r2, I1, I2, J1, J2, R1, R2, c1, c2, g1, g2, hT2⟩ := sp_take (L := L) (xs := xs) hg hT.1 a1
  obtain ⟨r1', I1', J1', R1', c1', g1', f1, cs1, m1, q1⟩ := api (ol_533 525 (by decide)) (by decide) (L := L) (xs := xs) (d := 19) (vs := [.ref 0, .int a1]) (by decide) hg ⟨g0_r (by decide), g0_i (aw _).1 (aw _).2, rfl⟩ rfl
  obtain ⟨y1, z1⟩ := ev_det c1 c1'
  cases y1
  cases z1
  obtain ⟨r2', I2', J2', R2', c2', g2', f2, cs2, m2, q2⟩ := api (ol_533 526 (by decide)) (by decide) (L := L) (xs := xs) (d := 19) (vs := [.ref 86, .int a1]) (by decide) g1 ⟨g0_r (by decide), g0_i (aw _).1 (aw _).2, rfl⟩ rfl
  obtain ⟨y2, z2⟩ := ev_det c2 c2'
  cases y2
  cases z2
  have hG := gd_of hg
  have hG1 := gd_of g1
  have a121 : ∀ q, q < 100 → I1 121 q = I 121 q := fun q hq => kp_c121 f1 rfl q hq
  have a123 : ∀ q, I1 123 q = I 123 q := fun q => kp_i f1 (c := 123) (k := q) (p := 405) rfl (by decide)
  have u4 : ∀ c q, (c = 66 ∨ c = 71 ∨ c = 76 ∨ c = 81) → (q = 4 ∨ q = 5) → I2 c q = I1 c q := kp_cr f2 rfl
  have key : r2 = r1 ∧ lwN I2 := by
    by_cases h : 0 ≤ a1.toInt ∧ a1.toInt ≤ 2
    rotate_left
    · have x := isl (L := L) (xs := xs) (d := 17) (I := I1) (J := J1) hG1 h
      by_cases h1 : a1.toInt < 0
      · skip
        obtain ⟨y1, y2⟩ := ev_det c1 (tX_n hG h1)
        obtain ⟨y3, y4⟩ := ev_det c2 (tM_n hG1 x)
        have er1 := inj_rv y1
        have er2 := inj_rv y3
        have eI1 := inj_hI y2
        have eI2 := inj_hI y4
        exact ⟨by rw [er1, er2], by rw [eI2, eI1]; exact hT.2.1⟩
      · skip
        obtain ⟨y1, y2⟩ := ev_det c1 (tX_b hG (by omega) (by omega))
        obtain ⟨y3, y4⟩ := ev_det c2 (tM_n hG1 x)
        have er1 := inj_rv y1
        have er2 := inj_rv y3
        have eI1 := inj_hI y2
        have eI2 := inj_hI y4
        exact ⟨by rw [er1, er2], by rw [eI2, eI1]; exact hT.2.1⟩
    have h3 : a1 = 0 ∨ a1 = 1 ∨ a1 = 2 := by
      have h3 : a1.toInt = 0 ∨ a1.toInt = 1 ∨ a1.toInt = 2 := by omega
      rcases h3 with h3 | h3 | h3
      · exact Or.inl (Int32.toInt_inj.mp h3)
      · exact Or.inr (Or.inl (Int32.toInt_inj.mp h3))
      · exact Or.inr (Or.inr (Int32.toInt_inj.mp h3))
    obtain ⟨m0, m1', m2', m3'⟩ := hT.2.1
    rcases h3 with rfl | rfl | rfl
    · rcases m1' with ⟨n1, n2⟩ | ⟨n1, n2, n3, n4⟩
      · skip
        obtain ⟨y1, y2⟩ := ev_det c1 (tX_o0 hG (sA_0 hG) (by rw [n1]; decide))
        obtain ⟨y3, y4⟩ := ev_det c2 (tM_o0 hG1 (isl_0 hG1) (by rw [a123, n2]; decide))
        have er1 := inj_rv y1
        have er2 := inj_rv y3
        have eI1 := inj_hI y2
        have eI2 := inj_hI y4
        exact ⟨by rw [er1, er2], by rw [eI2, eI1]; exact hT.2.1⟩
      · obtain ⟨Ic, Jc, x1, ⟨x2, x3, -⟩, x4, x5, x6⟩ := tx_0 (L := L) (xs := xs) (d := 17) (J := J) hG n1
        obtain ⟨Ir, Jr, w1, w3, w4, w5⟩ := tm_0 (L := L) (xs := xs) (d := 17) (I := I1) (J := J1) hG1 (by rw [a123, n2]; decide)
        obtain ⟨y1, y2⟩ := ev_det c1 (x1)
        obtain ⟨y3, y4⟩ := ev_det c2 (w1)
        have er1 := inj_rv y1
        have er2 := inj_rv y3
        have eI1 := inj_hI y2
        have eI2 := inj_hI y4
        refine ⟨by rw [er1, er2, a121 _ (by decide)]; exact n4.symm, ?_⟩
        have e121 : ∀ q, q < 100 → I2 121 q = if q < 25 then I 121 (25 + q) else I 121 q := by
          intro q hq
          rw [eI2, w5 q hq]
          by_cases hc : q < 25
          · rw [if_pos hc, if_pos hc, a121 _ (by omega)]
          · rw [if_neg hc, if_neg hc, a121 _ hq]
        have e4 : ∀ c q, (c = 66 ∨ c = 71 ∨ c = 76 ∨ c = 81) → (q = 4 ∨ q = 5) → I2 c q = Ic c q := fun c q h1 h2 => by rw [u4 c q h1 h2, eI1]
        have run : rnC 66 0 (I2 121 0) I2 := Or.inr ⟨by rw [e4 66 4 (by omega) (by omega), x2]; exact n1, by rw [e121 0 (by decide), if_pos (by decide)]; exact n3, by rw [e121 0 (by decide), if_pos (by decide)]; exact n3, by rw [e4 66 5 (by omega) (by omega), x3, e121 (0 + 1) (by decide), if_pos (by decide)]; exact n4⟩
        have oth0 : rnC 71 25 (I2 123 0) I2 := by
          have mm : rnC 71 25 (I 123 0) I := hT.2.1.2.1
          unfold rnC at *
          rw [e4 71 4 (by omega) (by omega), e4 71 5 (by omega) (by omega), x4.1, x4.2.1, e121 25 (by decide), e121 (25 + 1) (by decide), if_neg (by decide), if_neg (by decide), eI2, w4 0, a123]
          exact mm
        have oth1 : rnC 76 50 (I2 123 1) I2 := by
          have mm : rnC 76 50 (I 123 1) I := hT.2.1.2.2.1
          unfold rnC at *
          rw [e4 76 4 (by omega) (by omega), e4 76 5 (by omega) (by omega), x5.1, x5.2.1, e121 50 (by decide), e121 (50 + 1) (by decide), if_neg (by decide), if_neg (by decide), eI2, w4 1, a123]
          exact mm
        have oth2 : rnC 81 75 (I2 123 2) I2 := by
          have mm : rnC 81 75 (I 123 2) I := hT.2.1.2.2.2
          unfold rnC at *
          rw [e4 81 4 (by omega) (by omega), e4 81 5 (by omega) (by omega), x6.1, x6.2.1, e121 75 (by decide), e121 (75 + 1) (by decide), if_neg (by decide), if_neg (by decide), eI2, w4 2, a123]
          exact mm
        exact ⟨run, oth0, oth1, oth2⟩
    · rcases m2' with ⟨n1, n2⟩ | ⟨n1, n2, n3, n4⟩
      · skip
        obtain ⟨y1, y2⟩ := ev_det c1 (tX_o1 hG (sA_1 hG) (by rw [n1]; decide))
        obtain ⟨y3, y4⟩ := ev_det c2 (tM_o1 hG1 (isl_1 hG1) (by rw [a123, n2]; decide))
        have er1 := inj_rv y1
        have er2 := inj_rv y3
        have eI1 := inj_hI y2
        have eI2 := inj_hI y4
        exact ⟨by rw [er1, er2], by rw [eI2, eI1]; exact hT.2.1⟩
      · obtain ⟨Ic, Jc, x1, ⟨x2, x3, -⟩, x4, x5, x6⟩ := tx_1 (L := L) (xs := xs) (d := 17) (J := J) hG n1
        obtain ⟨Ir, Jr, w1, w3, w4, w5⟩ := tm_1 (L := L) (xs := xs) (d := 17) (I := I1) (J := J1) hG1 (by rw [a123, n2]; decide)
        obtain ⟨y1, y2⟩ := ev_det c1 (x1)
        obtain ⟨y3, y4⟩ := ev_det c2 (w1)
        have er1 := inj_rv y1
        have er2 := inj_rv y3
        have eI1 := inj_hI y2
        have eI2 := inj_hI y4
        refine ⟨by rw [er1, er2, a121 _ (by decide)]; exact n4.symm, ?_⟩
        have e121 : ∀ q, q < 100 → I2 121 q = if q < 25 then I 121 (50 + q) else I 121 q := by
          intro q hq
          rw [eI2, w5 q hq]
          by_cases hc : q < 25
          · rw [if_pos hc, if_pos hc, a121 _ (by omega)]
          · rw [if_neg hc, if_neg hc, a121 _ hq]
        have e4 : ∀ c q, (c = 66 ∨ c = 71 ∨ c = 76 ∨ c = 81) → (q = 4 ∨ q = 5) → I2 c q = Ic c q := fun c q h1 h2 => by rw [u4 c q h1 h2, eI1]
        have run : rnC 66 0 (I2 121 0) I2 := Or.inr ⟨by rw [e4 66 4 (by omega) (by omega), x2]; exact n1, by rw [e121 0 (by decide), if_pos (by decide)]; exact n3, by rw [e121 0 (by decide), if_pos (by decide)]; exact n3, by rw [e4 66 5 (by omega) (by omega), x3, e121 (0 + 1) (by decide), if_pos (by decide)]; exact n4⟩
        have oth0 : rnC 71 25 (I2 123 0) I2 := by
          have mm : rnC 71 25 (I 123 0) I := hT.2.1.2.1
          unfold rnC at *
          rw [e4 71 4 (by omega) (by omega), e4 71 5 (by omega) (by omega), x4.1, x4.2.1, e121 25 (by decide), e121 (25 + 1) (by decide), if_neg (by decide), if_neg (by decide), eI2, w4 0, a123]
          exact mm
        have oth1 : rnC 76 50 (I2 123 1) I2 := by
          have mm : rnC 76 50 (I 123 1) I := hT.2.1.2.2.1
          unfold rnC at *
          rw [e4 76 4 (by omega) (by omega), e4 76 5 (by omega) (by omega), x5.1, x5.2.1, e121 50 (by decide), e121 (50 + 1) (by decide), if_neg (by decide), if_neg (by decide), eI2, w4 1, a123]
          exact mm
        have oth2 : rnC 81 75 (I2 123 2) I2 := by
          have mm : rnC 81 75 (I 123 2) I := hT.2.1.2.2.2
          unfold rnC at *
          rw [e4 81 4 (by omega) (by omega), e4 81 5 (by omega) (by omega), x6.1, x6.2.1, e121 75 (by decide), e121 (75 + 1) (by decide), if_neg (by decide), if_neg (by decide), eI2, w4 2, a123]
          exact mm
        exact ⟨run, oth0, oth1, oth2⟩
    · rcases m3' with ⟨n1, n2⟩ | ⟨n1, n2, n3, n4⟩
      · skip
        obtain ⟨y1, y2⟩ := ev_det c1 (tX_o2 hG (sA_2 hG) (by rw [n1]; decide))
        obtain ⟨y3, y4⟩ := ev_det c2 (tM_o2 hG1 (isl_2 hG1) (by rw [a123, n2]; decide))
        have er1 := inj_rv y1
        have er2 := inj_rv y3
        have eI1 := inj_hI y2
        have eI2 := inj_hI y4
        exact ⟨by rw [er1, er2], by rw [eI2, eI1]; exact hT.2.1⟩
      · obtain ⟨Ic, Jc, x1, ⟨x2, x3, -⟩, x4, x5, x6⟩ := tx_2 (L := L) (xs := xs) (d := 17) (J := J) hG n1
        obtain ⟨Ir, Jr, w1, w3, w4, w5⟩ := tm_2 (L := L) (xs := xs) (d := 17) (I := I1) (J := J1) hG1 (by rw [a123, n2]; decide)
        obtain ⟨y1, y2⟩ := ev_det c1 (x1)
        obtain ⟨y3, y4⟩ := ev_det c2 (w1)
        have er1 := inj_rv y1
        have er2 := inj_rv y3
        have eI1 := inj_hI y2
        have eI2 := inj_hI y4
        refine ⟨by rw [er1, er2, a121 _ (by decide)]; exact n4.symm, ?_⟩
        have e121 : ∀ q, q < 100 → I2 121 q = if q < 25 then I 121 (75 + q) else I 121 q := by
          intro q hq
          rw [eI2, w5 q hq]
          by_cases hc : q < 25
          · rw [if_pos hc, if_pos hc, a121 _ (by omega)]
          · rw [if_neg hc, if_neg hc, a121 _ hq]
        have e4 : ∀ c q, (c = 66 ∨ c = 71 ∨ c = 76 ∨ c = 81) → (q = 4 ∨ q = 5) → I2 c q = Ic c q := fun c q h1 h2 => by rw [u4 c q h1 h2, eI1]
        have run : rnC 66 0 (I2 121 0) I2 := Or.inr ⟨by rw [e4 66 4 (by omega) (by omega), x2]; exact n1, by rw [e121 0 (by decide), if_pos (by decide)]; exact n3, by rw [e121 0 (by decide), if_pos (by decide)]; exact n3, by rw [e4 66 5 (by omega) (by omega), x3, e121 (0 + 1) (by decide), if_pos (by decide)]; exact n4⟩
        have oth0 : rnC 71 25 (I2 123 0) I2 := by
          have mm : rnC 71 25 (I 123 0) I := hT.2.1.2.1
          unfold rnC at *
          rw [e4 71 4 (by omega) (by omega), e4 71 5 (by omega) (by omega), x4.1, x4.2.1, e121 25 (by decide), e121 (25 + 1) (by decide), if_neg (by decide), if_neg (by decide), eI2, w4 0, a123]
          exact mm
        have oth1 : rnC 76 50 (I2 123 1) I2 := by
          have mm : rnC 76 50 (I 123 1) I := hT.2.1.2.2.1
          unfold rnC at *
          rw [e4 76 4 (by omega) (by omega), e4 76 5 (by omega) (by omega), x5.1, x5.2.1, e121 50 (by decide), e121 (50 + 1) (by decide), if_neg (by decide), if_neg (by decide), eI2, w4 1, a123]
          exact mm
        have oth2 : rnC 81 75 (I2 123 2) I2 := by
          have mm : rnC 81 75 (I 123 2) I := hT.2.1.2.2.2
          unfold rnC at *
          rw [e4 81 4 (by omega) (by omega), e4 81 5 (by omega) (by omega), x6.1, x6.2.1, e121 75 (by decide), e121 (75 + 1) (by decide), if_neg (by decide), if_neg (by decide), eI2, w4 2, a123]
          exact mm
        exact ⟨run, oth0, oth1, oth2⟩
  exact ⟨r1, r2, I1, I2, J1, J2, R1, R2, c1, c2, g1, g2, ⟨hT2, key.2, lwJ_k f2 rfl (lwJ_k f1 rfl hT.2.2.1), lwB_k f2 rfl (lwB_k f1 rfl hT.2.2.2)⟩, key.1⟩
theorem sqm_count {L : Nat} {xs : Nat → Int32} {I : Nat → Nat → Int32} {J : Nat → Nat → Int64} {R : Nat → Nat → Nat} (hg : aGood (124, I, J, R)) (hT : lwA I J R) (a1 : Int32) : ∃ (r1 r2 : Int32) (I1 I2 : Nat → Nat → Int32) (J1 J2 : Nat → Nat → Int64) (R1 R2 : Nat → Nat → Nat), xEv L xs 19 139 0 [.ref 0, .int a1] [] (124, I, J, R) (some (.int r1)) (124, I1, J1, R1) ∧ xEv L xs 19 236 0 [.ref 86, .int a1] [] (124, I1, J1, R1) (some (.int r2)) (124, I2, J2, R2) ∧ aGood (124, I1, J1, R1) ∧ aGood (124, I2, J2, R2) ∧ lwA I2 J2 R2 ∧ r2 = r1 := by
  obtain ⟨r1, r2, I1, I2, J1, J2, R1, R2, c1, c2, g1, g2, hT2, e⟩ := sp_count (L := L) (xs := xs) hg hT.1 a1
  obtain ⟨r1', I1', J1', R1', c1', g1', f1, cs1, m1, q1⟩ := api (ol_533 527 (by decide)) (by decide) (L := L) (xs := xs) (d := 19) (vs := [.ref 0, .int a1]) (by decide) hg ⟨g0_r (by decide), g0_i (aw _).1 (aw _).2, rfl⟩ rfl
  obtain ⟨y1, z1⟩ := ev_det c1 c1'
  cases y1
  cases z1
  obtain ⟨r2', I2', J2', R2', c2', g2', f2, cs2, m2, q2⟩ := api (ol_533 528 (by decide)) (by decide) (L := L) (xs := xs) (d := 19) (vs := [.ref 86, .int a1]) (by decide) g1 ⟨g0_r (by decide), g0_i (aw _).1 (aw _).2, rfl⟩ rfl
  obtain ⟨y2, z2⟩ := ev_det c2 c2'
  cases y2
  cases z2
  exact ⟨r1, r2, I1, I2, J1, J2, R1, R2, c1, c2, g1, g2, ⟨hT2, lwN_k f2 rfl (lwN_k f1 rfl hT.2.1), lwJ_k f2 rfl (lwJ_k f1 rfl hT.2.2.1), lwB_k f2 rfl (lwB_k f1 rfl hT.2.2.2)⟩, e⟩
