def aIntOuts (w : Nat) : Bool := (aOut w).all fun cs => match cs.1 with
  | some (Sum.inr (Sum.inl _)) => true
  | _ => false
/-- a call from outside, by its contract -/
theorem api {w : Nat} (hk : aOK w) (hi : aIntOuts w = true) {L : Nat} {xs : Nat → Int32} {d : Nat} {I : Nat → Nat → Int32} {J : Nat → Nat → Int64} {R : Nat → Nat → Nat} {vs : List Value} (hd : aDep w ≤ d) (hg : aGood (124, I, J, R)) (hA : aArgs (aIns w) vs) (hp : aPre w = []) : ∃ (r : Int32) (I1 : Nat → Nat → Int32) (J1 : Nat → Nat → Int64) (R1 : Nat → Nat → Nat), xEv L xs d (aJ w) 0 (xent vs (xml (aJ w))) [] (124, I, J, R) (some (.int r)) (124, I1, J1, R1) ∧ aGood (124, I1, J1, R1) ∧ aFr (aMod w) (124, I, J, R) (124, I1, J1, R1) ∧ ∃ cs ∈ aOut w, aCok ((124, I, J, R), vs) (some (.int r)) (124, I1, J1, R1) cs := by
  obtain ⟨v1, ⟨n1, I1, J1, R1⟩, he, hg1, hf1, cs, hcs, hc⟩ := hk L xs d vs (124, I, J, R) hd hg hA (by rw [hp]; exact fok0)
  have e1 : n1 = 124 := hg1.1
  subst e1
  have h1 := List.all_eq_true.mp hi cs hcs
  obtain ⟨a, rs, fs, us⟩ := cs
  rcases a with _ | a
  · cases h1
  rcases a with _ | ⟨lo, hi, o⟩ | a
  · cases h1
  · obtain ⟨⟨v2, q1, x, q2, q3, q4⟩, q5⟩ := hc
    subst q1
    subst q2
    exact ⟨x, I1, J1, R1, he, hg1, hf1, _, hcs, ⟨⟨_, rfl, x, rfl, q3, q4⟩, q5⟩⟩
  · rcases a with _ | _ <;> cases h1
/-- what a call leaves as it was -/
def kpP (m p : Nat) : Bool := !(Nat.testBit m p)
theorem kp_s {m p : Nat} (h : kpP m p = true) : Nat.testBit m p = false := by
  unfold kpP at h
  cases hb : Nat.testBit m p with
  | false => rfl
  | true => rw [hb] at h; cases h
theorem kp_i {m : Nat} {h h1 : xH} (f : aFr m h h1) {c k p : Nat} (e : aPid c k = p) (hk : kpP m p = true) : h1.2.1 c k = h.2.1 c k := (f c k (by show Nat.testBit m (aPid c k) = false; rw [e]; exact kp_s hk)).1
theorem kp_r {m : Nat} {h h1 : xH} (f : aFr m h h1) {c k p : Nat} (e : aPid c k = p) (hk : kpP m p = true) : h1.2.2.2 c k = h.2.2.2 c k := (f c k (by show Nat.testBit m (aPid c k) = false; rw [e]; exact kp_s hk)).2.2
theorem kp_l {m : Nat} {h h1 : xH} (f : aFr m h h1) {c k p : Nat} (e : aPid c k = p) (hk : kpP m p = true) : h1.2.2.1 c k = h.2.2.1 c k := (f c k (by show Nat.testBit m (aPid c k) = false; rw [e]; exact kp_s hk)).2.1
/-- the tape of both -/
def lwT (I : Nat → Nat → Int32) : Prop := (I 1 1).toInt = (I 86 1).toInt ∧ ∀ q : Nat, (q : Int) < (I 1 1).toInt → I 87 q &&& 255 = I 2 q
/-- the village of both -/
def lwV (I : Nat → Nat → Int32) (R : Nat → Nat → Nat) : Prop := ∃ (np nm nn : Nat) (l : List (Nat × Nat)), (R 0 8 = 4 ∧ R 0 9 = 24 ∧ VR_3 np nm nn l I I) ∨ (R 0 8 = 24 ∧ R 0 9 = 4 ∧ VR_23 np nm nn l I I)
/-- the rules of both -/
def lwK (I : Nat → Nat → Int32) : Prop := ∀ i, i < 7 → I 64 i = I 119 i ∧ (I 119 i = 1 → I 65 i = I 120 i)
/-- the fault of both -/
def lwF (I : Nat → Nat → Int32) : Prop := (I 43 2).toInt = (I 86 8).toInt ∧ (I 43 3).toInt = (I 86 9).toInt
def lwI (I : Nat → Nat → Int32) (R : Nat → Nat → Nat) : Prop := lwT I ∧ lwV I R ∧ lwK I ∧ lwF I
def kpT (m : Nat) : Bool := kpP m 11 && kpP m 16 && kpP m 207 && kpP m 265
def kpVl : List Nat := [8, 9, 17, 18, 19, 20, 21, 22, 23, 24, 25, 26, 27, 28, 29, 30, 31, 32, 33, 34, 35, 36, 37, 38, 39, 40, 41, 42, 43, 44, 45, 46, 47, 48, 49, 50, 51, 52, 53, 54, 55, 56, 57, 58, 59, 60, 61, 62, 63, 64, 65, 66, 67, 68, 69, 70, 71, 72, 73, 74, 75, 76, 77, 78, 79, 80, 81, 82, 83, 84, 85, 86, 87, 88, 89, 90, 91, 92, 93, 94, 95, 96, 97, 98, 99, 100, 231, 232, 266, 267, 268, 273, 274, 275, 276, 277, 278, 279, 280, 281, 282, 283, 284, 285, 286]
def kpV (m : Nat) : Bool := kpVl.all (kpP m)
def kpK (m : Nat) : Bool := [156, 157, 302, 303].all (kpP m)
def kpF (m : Nat) : Bool := [103, 104, 214, 215].all (kpP m)
theorem lwT_k {m : Nat} {I I1 : Nat → Nat → Int32} {J J1 : Nat → Nat → Int64} {R R1 : Nat → Nat → Nat} (f : aFr m (124, I, J, R) (124, I1, J1, R1)) (h : kpT m = true) (hT : lwT I) : lwT I1 := by
  unfold kpT at h
  simp only [Bool.and_eq_true] at h
  have e1 : I1 1 1 = I 1 1 := kp_i f (c := 1) (k := 1) rfl h.1.1.1
  have e2 : I1 86 1 = I 86 1 := kp_i f (c := 86) (k := 1) rfl h.1.2
  have e3 : ∀ q, I1 2 q = I 2 q := fun q => kp_i f (c := 2) (k := q) rfl h.1.1.2
  have e4 : ∀ q, I1 87 q = I 87 q := fun q => kp_i f (c := 87) (k := q) rfl h.2
  refine ⟨by rw [e1, e2]; exact hT.1, fun q hq => ?_⟩
  rw [e3, e4]
  rw [e1] at hq
  exact hT.2 q hq
def RE (I I' : Nat → Nat → Int32) : Prop := ∀ c q, ((c = 88 ∧ q < 3) ∨ ((c = 90 ∨ c = 91) ∧ q < 7) ∨ (92 ≤ c ∧ c ≤ 95 ∧ q < 16) ∨ (96 ≤ c ∧ c ≤ 100 ∧ q < 4) ∨ (101 ≤ c ∧ c ≤ 103) ∨ (c = 86 ∧ (q = 25 ∨ q = 26))) → I' c q = I c q
theorem kp_m {m p : Nat} {ps : List Nat} (h : ps.all (kpP m) = true) (hp : ps.contains p = true) : kpP m p = true := List.all_eq_true.mp h p (List.contains_iff_mem.mp hp)
theorem RE_of {m : Nat} {I I1 : Nat → Nat → Int32} {J J1 : Nat → Nat → Int64} {R R1 : Nat → Nat → Nat} (f : aFr m (124, I, J, R) (124, I1, J1, R1)) (h : kpV m = true) : RE I I1 := by
  intro c q hc
  have hc' : c = 90 ∨ c = 91 ∨ c = 92 ∨ c = 93 ∨ c = 94 ∨ c = 95 ∨ c = 96 ∨ c = 97 ∨ c = 98 ∨ c = 99 ∨ c = 100 ∨ c = 101 ∨ c = 102 ∨ c = 103 ∨ (c = 88 ∧ q = 0) ∨ (c = 88 ∧ q = 1) ∨ (c = 88 ∧ q = 2) ∨ (c = 86 ∧ q = 25) ∨ (c = 86 ∧ q = 26) := by omega
  rcases hc' with rfl | rfl | rfl | rfl | rfl | rfl | rfl | rfl | rfl | rfl | rfl | rfl | rfl | rfl | ⟨rfl, rfl⟩ | ⟨rfl, rfl⟩ | ⟨rfl, rfl⟩ | ⟨rfl, rfl⟩ | ⟨rfl, rfl⟩
  · exact kp_i f (c := 90) (k := q) (p := 273) rfl (kp_m h rfl)
  · exact kp_i f (c := 91) (k := q) (p := 274) rfl (kp_m h rfl)
  · exact kp_i f (c := 92) (k := q) (p := 275) rfl (kp_m h rfl)
  · exact kp_i f (c := 93) (k := q) (p := 276) rfl (kp_m h rfl)
  · exact kp_i f (c := 94) (k := q) (p := 277) rfl (kp_m h rfl)
  · exact kp_i f (c := 95) (k := q) (p := 278) rfl (kp_m h rfl)
  · exact kp_i f (c := 96) (k := q) (p := 279) rfl (kp_m h rfl)
  · exact kp_i f (c := 97) (k := q) (p := 280) rfl (kp_m h rfl)
  · exact kp_i f (c := 98) (k := q) (p := 281) rfl (kp_m h rfl)
  · exact kp_i f (c := 99) (k := q) (p := 282) rfl (kp_m h rfl)
  · exact kp_i f (c := 100) (k := q) (p := 283) rfl (kp_m h rfl)
  · exact kp_i f (c := 101) (k := q) (p := 284) rfl (kp_m h rfl)
  · exact kp_i f (c := 102) (k := q) (p := 285) rfl (kp_m h rfl)
  · exact kp_i f (c := 103) (k := q) (p := 286) rfl (kp_m h rfl)
  · exact kp_i f (c := 88) (k := 0) (p := 266) rfl (kp_m h rfl)
  · exact kp_i f (c := 88) (k := 1) (p := 267) rfl (kp_m h rfl)
  · exact kp_i f (c := 88) (k := 2) (p := 268) rfl (kp_m h rfl)
  · exact kp_i f (c := 86) (k := 25) (p := 231) rfl (kp_m h rfl)
  · exact kp_i f (c := 86) (k := 26) (p := 232) rfl (kp_m h rfl)
def CE_3 (I I' : Nat → Nat → Int32) : Prop := (I' 3 14 = I 3 14 ∧ I' 3 15 = I 3 15 ∧ I' 3 16 = I 3 16 ∧ I' 3 17 = I 3 17 ∧ I' 17 5 = I 17 5) ∧ (∀ c, ((5 ≤ c ∧ c ≤ 16) ∨ (18 ≤ c ∧ c ≤ 22)) → ∀ q, I' c q = I c q)
theorem VR_e_3 {np nm nn : Nat} {l : List (Nat × Nat)} {I I' Ir Ir' : Nat → Nat → Int32} (hV : VR_3 np nm nn l I Ir) (e1 : CE_3 I I') (e2 : RE Ir Ir') : VR_3 np nm nn l I' Ir' := by
  have x : ∀ c, ((5 ≤ c ∧ c ≤ 16) ∨ (18 ≤ c ∧ c ≤ 22)) → I' c = I c := fun c h => funext fun q => e1.2 c h q
  obtain ⟨⟨s1, s2, s3, s4, s5⟩, -⟩ := e1
  obtain ⟨⟨p1, p2, p3⟩, p4, p5, p6, ⟨q1, q2⟩, ⟨q3, q4⟩, ⟨q5, q6⟩, q7, q8, q9, ⟨q10, q11⟩, q12, q13, q14, q15, q16, q17⟩ := hV
  unfold VR_3
  rw [s1, s2, s3, s4, s5, x 5 (by omega), x 6 (by omega), x 7 (by omega), x 8 (by omega), x 9 (by omega), x 10 (by omega), x 11 (by omega), x 12 (by omega), x 13 (by omega), x 14 (by omega), x 15 (by omega), x 16 (by omega), x 18 (by omega), x 19 (by omega), x 20 (by omega), x 21 (by omega), x 22 (by omega), e2 88 0 (by omega), e2 88 1 (by omega), e2 88 2 (by omega), e2 86 26 (by omega), e2 86 25 (by omega)]
  refine ⟨⟨p1, p2, p3⟩, p4, p5, p6, ⟨q1, q2⟩, ⟨q3, q4⟩, ⟨q5, q6⟩, fun i hi => ?_, fun i hi => ?_, fun i hi => ?_, ⟨q10, q11⟩, fun t a b h => ?_, q13, q14, q15, q16, q17⟩
  · rw [e2 90 i (by omega), e2 91 i (by omega)]
    exact q7 i hi
  · rw [e2 92 i (by omega), e2 93 i (by omega), e2 94 i (by omega), e2 95 i (by omega)]
    exact q8 i hi
  · rw [e2 96 i (by omega), e2 97 i (by omega), e2 98 i (by omega), e2 99 i (by omega), e2 100 i (by omega), e2 103 i (by omega)]
    exact q9 i hi
  · have hb := (p6 (a, b) (List.mem_of_getElem? h)).2
    have hb' : b < nm := hb
    rw [e2 102 t (by omega), e2 101 t (by omega), e2 92 b (by omega), e2 93 b (by omega), e2 95 b (by omega)]
    exact q12 t a b h
theorem CE_of_3 {m : Nat} {I I1 : Nat → Nat → Int32} {J J1 : Nat → Nat → Int64} {R R1 : Nat → Nat → Nat} (f : aFr m (124, I, J, R) (124, I1, J1, R1)) (h : kpV m = true) : CE_3 I I1 := by
  refine ⟨⟨kp_i f (c := 3) (k := 14) (p := 31) rfl (kp_m h rfl), kp_i f (c := 3) (k := 15) (p := 32) rfl (kp_m h rfl), kp_i f (c := 3) (k := 16) (p := 33) rfl (kp_m h rfl), kp_i f (c := 3) (k := 17) (p := 34) rfl (kp_m h rfl), kp_i f (c := 17) (k := 5) (p := 53) rfl (kp_m h rfl)⟩, ?_⟩
  intro c hc q
  have hc' : c = 5 ∨ c = 6 ∨ c = 7 ∨ c = 8 ∨ c = 9 ∨ c = 10 ∨ c = 11 ∨ c = 12 ∨ c = 13 ∨ c = 14 ∨ c = 15 ∨ c = 16 ∨ c = 18 ∨ c = 19 ∨ c = 20 ∨ c = 21 ∨ c = 22 := by omega
  rcases hc' with rfl | rfl | rfl | rfl | rfl | rfl | rfl | rfl | rfl | rfl | rfl | rfl | rfl | rfl | rfl | rfl | rfl
  · exact kp_i f (c := 5) (k := q) (p := 36) rfl (kp_m h rfl)
  · exact kp_i f (c := 6) (k := q) (p := 37) rfl (kp_m h rfl)
  · exact kp_i f (c := 7) (k := q) (p := 38) rfl (kp_m h rfl)
  · exact kp_i f (c := 8) (k := q) (p := 39) rfl (kp_m h rfl)
  · exact kp_i f (c := 9) (k := q) (p := 40) rfl (kp_m h rfl)
  · exact kp_i f (c := 10) (k := q) (p := 41) rfl (kp_m h rfl)
  · exact kp_i f (c := 11) (k := q) (p := 42) rfl (kp_m h rfl)
  · exact kp_i f (c := 12) (k := q) (p := 43) rfl (kp_m h rfl)
  · exact kp_i f (c := 13) (k := q) (p := 44) rfl (kp_m h rfl)
  · exact kp_i f (c := 14) (k := q) (p := 45) rfl (kp_m h rfl)
  · exact kp_i f (c := 15) (k := q) (p := 46) rfl (kp_m h rfl)
  · exact kp_i f (c := 16) (k := q) (p := 47) rfl (kp_m h rfl)
  · exact kp_i f (c := 18) (k := q) (p := 54) rfl (kp_m h rfl)
  · exact kp_i f (c := 19) (k := q) (p := 55) rfl (kp_m h rfl)
  · exact kp_i f (c := 20) (k := q) (p := 56) rfl (kp_m h rfl)
  · exact kp_i f (c := 21) (k := q) (p := 57) rfl (kp_m h rfl)
  · exact kp_i f (c := 22) (k := q) (p := 58) rfl (kp_m h rfl)
def CE_23 (I I' : Nat → Nat → Int32) : Prop := (I' 23 14 = I 23 14 ∧ I' 23 15 = I 23 15 ∧ I' 23 16 = I 23 16 ∧ I' 23 17 = I 23 17 ∧ I' 37 5 = I 37 5) ∧ (∀ c, ((25 ≤ c ∧ c ≤ 36) ∨ (38 ≤ c ∧ c ≤ 42)) → ∀ q, I' c q = I c q)
theorem VR_e_23 {np nm nn : Nat} {l : List (Nat × Nat)} {I I' Ir Ir' : Nat → Nat → Int32} (hV : VR_23 np nm nn l I Ir) (e1 : CE_23 I I') (e2 : RE Ir Ir') : VR_23 np nm nn l I' Ir' := by
  have x : ∀ c, ((25 ≤ c ∧ c ≤ 36) ∨ (38 ≤ c ∧ c ≤ 42)) → I' c = I c := fun c h => funext fun q => e1.2 c h q
  obtain ⟨⟨s1, s2, s3, s4, s5⟩, -⟩ := e1
  obtain ⟨⟨p1, p2, p3⟩, p4, p5, p6, ⟨q1, q2⟩, ⟨q3, q4⟩, ⟨q5, q6⟩, q7, q8, q9, ⟨q10, q11⟩, q12, q13, q14, q15, q16, q17⟩ := hV
  unfold VR_23
  rw [s1, s2, s3, s4, s5, x 25 (by omega), x 26 (by omega), x 27 (by omega), x 28 (by omega), x 29 (by omega), x 30 (by omega), x 31 (by omega), x 32 (by omega), x 33 (by omega), x 34 (by omega), x 35 (by omega), x 36 (by omega), x 38 (by omega), x 39 (by omega), x 40 (by omega), x 41 (by omega), x 42 (by omega), e2 88 0 (by omega), e2 88 1 (by omega), e2 88 2 (by omega), e2 86 26 (by omega), e2 86 25 (by omega)]
  refine ⟨⟨p1, p2, p3⟩, p4, p5, p6, ⟨q1, q2⟩, ⟨q3, q4⟩, ⟨q5, q6⟩, fun i hi => ?_, fun i hi => ?_, fun i hi => ?_, ⟨q10, q11⟩, fun t a b h => ?_, q13, q14, q15, q16, q17⟩
  · rw [e2 90 i (by omega), e2 91 i (by omega)]
    exact q7 i hi
  · rw [e2 92 i (by omega), e2 93 i (by omega), e2 94 i (by omega), e2 95 i (by omega)]
    exact q8 i hi
  · rw [e2 96 i (by omega), e2 97 i (by omega), e2 98 i (by omega), e2 99 i (by omega), e2 100 i (by omega), e2 103 i (by omega)]
    exact q9 i hi
  · have hb := (p6 (a, b) (List.mem_of_getElem? h)).2
    have hb' : b < nm := hb
    rw [e2 102 t (by omega), e2 101 t (by omega), e2 92 b (by omega), e2 93 b (by omega), e2 95 b (by omega)]
    exact q12 t a b h
theorem CE_of_23 {m : Nat} {I I1 : Nat → Nat → Int32} {J J1 : Nat → Nat → Int64} {R R1 : Nat → Nat → Nat} (f : aFr m (124, I, J, R) (124, I1, J1, R1)) (h : kpV m = true) : CE_23 I I1 := by
  refine ⟨⟨kp_i f (c := 23) (k := 14) (p := 73) rfl (kp_m h rfl), kp_i f (c := 23) (k := 15) (p := 74) rfl (kp_m h rfl), kp_i f (c := 23) (k := 16) (p := 75) rfl (kp_m h rfl), kp_i f (c := 23) (k := 17) (p := 76) rfl (kp_m h rfl), kp_i f (c := 37) (k := 5) (p := 95) rfl (kp_m h rfl)⟩, ?_⟩
  intro c hc q
  have hc' : c = 25 ∨ c = 26 ∨ c = 27 ∨ c = 28 ∨ c = 29 ∨ c = 30 ∨ c = 31 ∨ c = 32 ∨ c = 33 ∨ c = 34 ∨ c = 35 ∨ c = 36 ∨ c = 38 ∨ c = 39 ∨ c = 40 ∨ c = 41 ∨ c = 42 := by omega
  rcases hc' with rfl | rfl | rfl | rfl | rfl | rfl | rfl | rfl | rfl | rfl | rfl | rfl | rfl | rfl | rfl | rfl | rfl
  · exact kp_i f (c := 25) (k := q) (p := 78) rfl (kp_m h rfl)
  · exact kp_i f (c := 26) (k := q) (p := 79) rfl (kp_m h rfl)
  · exact kp_i f (c := 27) (k := q) (p := 80) rfl (kp_m h rfl)
  · exact kp_i f (c := 28) (k := q) (p := 81) rfl (kp_m h rfl)
  · exact kp_i f (c := 29) (k := q) (p := 82) rfl (kp_m h rfl)
  · exact kp_i f (c := 30) (k := q) (p := 83) rfl (kp_m h rfl)
  · exact kp_i f (c := 31) (k := q) (p := 84) rfl (kp_m h rfl)
  · exact kp_i f (c := 32) (k := q) (p := 85) rfl (kp_m h rfl)
  · exact kp_i f (c := 33) (k := q) (p := 86) rfl (kp_m h rfl)
  · exact kp_i f (c := 34) (k := q) (p := 87) rfl (kp_m h rfl)
  · exact kp_i f (c := 35) (k := q) (p := 88) rfl (kp_m h rfl)
  · exact kp_i f (c := 36) (k := q) (p := 89) rfl (kp_m h rfl)
  · exact kp_i f (c := 38) (k := q) (p := 96) rfl (kp_m h rfl)
  · exact kp_i f (c := 39) (k := q) (p := 97) rfl (kp_m h rfl)
  · exact kp_i f (c := 40) (k := q) (p := 98) rfl (kp_m h rfl)
  · exact kp_i f (c := 41) (k := q) (p := 99) rfl (kp_m h rfl)
  · exact kp_i f (c := 42) (k := q) (p := 100) rfl (kp_m h rfl)
theorem lwV_k {m : Nat} {I I1 : Nat → Nat → Int32} {J J1 : Nat → Nat → Int64} {R R1 : Nat → Nat → Nat} (f : aFr m (124, I, J, R) (124, I1, J1, R1)) (h : kpV m = true) (hV : lwV I R) : lwV I1 R1 := by
  obtain ⟨np, nm, nn, l, hV⟩ := hV
  have e1 : R1 0 8 = R 0 8 := kp_r f (c := 0) (k := 8) (p := 8) rfl (kp_m h rfl)
  have e2 : R1 0 9 = R 0 9 := kp_r f (c := 0) (k := 9) (p := 9) rfl (kp_m h rfl)
  refine ⟨np, nm, nn, l, ?_⟩
  rw [e1, e2]
  rcases hV with ⟨h1, h2, h3⟩ | ⟨h1, h2, h3⟩
  · exact Or.inl ⟨h1, h2, VR_e_3 h3 (CE_of_3 f h) (RE_of f h)⟩
  · exact Or.inr ⟨h1, h2, VR_e_23 h3 (CE_of_23 f h) (RE_of f h)⟩
theorem lwK_k {m : Nat} {I I1 : Nat → Nat → Int32} {J J1 : Nat → Nat → Int64} {R R1 : Nat → Nat → Nat} (f : aFr m (124, I, J, R) (124, I1, J1, R1)) (h : kpK m = true) (hK : lwK I) : lwK I1 := by
  intro i hi
  rw [show I1 64 i = I 64 i from kp_i f (c := 64) (k := i) (p := 156) rfl (kp_m h rfl), show I1 65 i = I 65 i from kp_i f (c := 65) (k := i) (p := 157) rfl (kp_m h rfl), show I1 119 i = I 119 i from kp_i f (c := 119) (k := i) (p := 302) rfl (kp_m h rfl), show I1 120 i = I 120 i from kp_i f (c := 120) (k := i) (p := 303) rfl (kp_m h rfl)]
  exact hK i hi
theorem lwF_k {m : Nat} {I I1 : Nat → Nat → Int32} {J J1 : Nat → Nat → Int64} {R R1 : Nat → Nat → Nat} (f : aFr m (124, I, J, R) (124, I1, J1, R1)) (h : kpF m = true) (hK : lwF I) : lwF I1 := by
  unfold lwF
  rw [show I1 43 2 = I 43 2 from kp_i f (c := 43) (k := 2) (p := 103) rfl (kp_m h rfl), show I1 43 3 = I 43 3 from kp_i f (c := 43) (k := 3) (p := 104) rfl (kp_m h rfl), show I1 86 8 = I 86 8 from kp_i f (c := 86) (k := 8) (p := 214) rfl (kp_m h rfl), show I1 86 9 = I 86 9 from kp_i f (c := 86) (k := 9) (p := 215) rfl (kp_m h rfl)]
  exact hK
theorem lwT_0 {I : Nat → Nat → Int32} (h1 : 0 ≤ (I 1 1).toInt ∧ (I 1 1).toInt ≤ 0) (h2 : 0 ≤ (I 86 1).toInt ∧ (I 86 1).toInt ≤ 0) : lwT I := ⟨by omega, fun q hq => by omega⟩
theorem sp_feed {L : Nat} {xs : Nat → Int32} {I : Nat → Nat → Int32} {J : Nat → Nat → Int64} {R : Nat → Nat → Nat} (hg : aGood (124, I, J, R)) (hT : lwI I R) (a1 a2 a3 a4 a5 : Int32) : ∃ (r1 r2 : Int32) (I1 I2 : Nat → Nat → Int32) (J1 J2 : Nat → Nat → Int64) (R1 R2 : Nat → Nat → Nat), xEv L xs 19 14 0 [.ref 0, .int a1, .int a2, .int a3, .int a4, .int a5] [] (124, I, J, R) (some (.int r1)) (124, I1, J1, R1) ∧ xEv L xs 19 145 0 [.ref 86, .int a1, .int a2, .int a3, .int a4, .int a5, xmk, xmk, xmk] [] (124, I1, J1, R1) (some (.int r2)) (124, I2, J2, R2) ∧ aGood (124, I1, J1, R1) ∧ aGood (124, I2, J2, R2) ∧ lwI I2 R2 ∧ r2 = r1 := by
  obtain ⟨r1, I1, J1, R1, c1, g1, f1, cs1, m1, q1⟩ := api (ol_533 113 (by decide)) (by decide) (L := L) (xs := xs) (d := 19) (vs := [.ref 0, .int a1, .int a2, .int a3, .int a4, .int a5]) (by decide) hg ⟨g0_r (by decide), g0_i (aw _).1 (aw _).2, g0_i (aw _).1 (aw _).2, g0_i (aw _).1 (aw _).2, g0_i (aw _).1 (aw _).2, g0_i (aw _).1 (aw _).2, rfl⟩ rfl
  obtain ⟨r2, I2, J2, R2, c2, g2, f2, cs2, m2, q2⟩ := api (ol_533 114 (by decide)) (by decide) (L := L) (xs := xs) (d := 19) (vs := [.ref 86, .int a1, .int a2, .int a3, .int a4, .int a5]) (by decide) g1 ⟨g0_r (by decide), g0_i (aw _).1 (aw _).2, g0_i (aw _).1 (aw _).2, g0_i (aw _).1 (aw _).2, g0_i (aw _).1 (aw _).2, g0_i (aw _).1 (aw _).2, rfl⟩ rfl
  have hR2 : lwV I2 R2 ∧ lwK I2 ∧ lwF I2 := ⟨lwV_k f2 rfl (lwV_k f1 rfl hT.2.1), lwK_k f2 rfl (lwK_k f1 rfl hT.2.2.1), lwF_k f2 rfl (lwF_k f1 rfl hT.2.2.2)⟩
  have b1 := good_int hg 1 1 rfl
  have b2 : (aRng 1 1) = (0, 900) := rfl
  rw [b2] at b1
  dsimp only at b1
  obtain ⟨n, hn⟩ := Int.eq_ofNat_of_zero_le b1.1
  have hn' : (I 1 1).toInt = n := hn
  have p1 : I1 86 1 = I 86 1 := fr_int f1 86 1 rfl
  have p2 : I2 1 1 = I1 1 1 := fr_int f2 1 1 rfl
  have p3 : ∀ q, I1 87 q = I 87 q := fun q => kp_i f1 (c := 87) (k := q) (p := 265) rfl (by decide)
  have p4 : ∀ q, I2 2 q = I1 2 q := fun q => kp_i f2 (c := 2) (k := q) (p := 16) rfl (by decide)
  have hm' : (I1 86 1).toInt = n := by rw [p1, ← hT.1.1]; exact hn
  by_cases hf : n ≤ 880
  · obtain ⟨Ix, x1, x2, x3, x4⟩ := fx_b (L := L) (xs := xs) (d := 18) (I := I) (J := J) (R := R) (a1 := a1) (a2 := a2) (a3 := a3) (a4 := a4) (a5 := a5) (gd_of hg) hn' hf
    obtain ⟨Iy, y1, y2, y3, y4⟩ := fm_b (L := L) (xs := xs) (d := 19) (I := I1) (J := J1) (R := R1) (a1 := a1) (a2 := a2) (a3 := a3) (a4 := a4) (a5 := a5) (gd_of g1) hm' hf
    obtain ⟨z1, z2⟩ := ev_det c1 x1
    obtain ⟨z3, z4⟩ := ev_det c2 y1
    have er1 : r1 = Ix 1 1 := by injection z1 with h; injection h
    have er2 : r2 = Iy 86 1 := by injection z3 with h; injection h
    have eI1 : I1 = Ix := congrArg (fun h : xH => h.2.1) z2
    have eI2 : I2 = Iy := congrArg (fun h : xH => h.2.1) z4
    refine ⟨r1, r2, I1, I2, J1, J2, R1, R2, c1, c2, g1, g2, ⟨⟨?_, ?_⟩, hR2⟩, ?_⟩
    · rw [p2, eI1, eI2, x2, y2]
    · intro q hq
      rw [p2, eI1, x2] at hq
      rw [p4 q, eI1, eI2]
      by_cases h0 : q < n
      · rw [x3 q h0, y3 q h0, p3]
        exact hT.1.2 q (by omega)
      · obtain ⟨j, i, hj, hi, e⟩ : ∃ j i, j < 5 ∧ i < 4 ∧ q = n + 4 * j + i := ⟨(q - n) / 4, (q - n) % 4, by omega, by omega, by omega⟩
        have u := x4 i hi
        have w := y4 i hi
        have hj5 : j = 0 ∨ j = 1 ∨ j = 2 ∨ j = 3 ∨ j = 4 := by omega
        rcases hj5 with rfl | rfl | rfl | rfl | rfl
        · have e' : q = n + i := by omega
          rw [e', u.1, w.1]
        · have e' : q = n + 4 + i := by omega
          rw [e', u.2.1, w.2.1]
        · have e' : q = n + 8 + i := by omega
          rw [e', u.2.2.1, w.2.2.1]
        · have e' : q = n + 12 + i := by omega
          rw [e', u.2.2.2.1, w.2.2.2.1]
        · have e' : q = n + 16 + i := by omega
          rw [e', u.2.2.2.2, w.2.2.2.2]
    · exact Int32.toInt_inj.mp (by rw [er1, er2, x2, y2])
  · have x1 := sg_fx0 (L := L) (xs := xs) (d := 19) (J := J) (a1 := a1) (a2 := a2) (a3 := a3) (a4 := a4) (a5 := a5) (gd_of hg) (show (I 1 1).toInt > 880 by omega)
    have e20 : (I1 86 1 + 20).toInt = (I1 86 1).toInt + 20 := i_add (by rw [show (20 : Int32).toInt = 20 from by decide]; omega) (by rw [show (20 : Int32).toInt = 20 from by decide]; omega)
    have y1 := sg_fm0 (L := L) (xs := xs) (d := 19) (J := J1) (a1 := a1) (a2 := a2) (a3 := a3) (a4 := a4) (a5 := a5) (gd_of g1) (show (I1 86 1 + 20).toInt > 900 by omega)
    obtain ⟨z1, z2⟩ := ev_det c1 x1
    obtain ⟨z3, z4⟩ := ev_det c2 y1
    have er1 : r1 = -3 := by injection z1 with h; injection h
    have er2 : r2 = -3 := by injection z3 with h; injection h
    have eI1 : I1 = I := congrArg (fun h : xH => h.2.1) z2
    have eI2 : I2 = I1 := congrArg (fun h : xH => h.2.1) z4
    exact ⟨r1, r2, I1, I2, J1, J2, R1, R2, c1, c2, g1, g2, ⟨by rw [eI2, eI1]; exact hT.1, hR2⟩, by rw [er1, er2]⟩
theorem sp_end {L : Nat} {xs : Nat → Int32} {I : Nat → Nat → Int32} {J : Nat → Nat → Int64} {R : Nat → Nat → Nat} (hg : aGood (124, I, J, R)) (hT : lwI I R) (a1 : Int32) : ∃ (r1 r2 : Int32) (I1 I2 : Nat → Nat → Int32) (J1 J2 : Nat → Nat → Int64) (R1 R2 : Nat → Nat → Nat), xEv L xs 19 16 0 [.ref 0, .int a1] [] (124, I, J, R) (some (.int r1)) (124, I1, J1, R1) ∧ xEv L xs 19 146 0 [.ref 86, .int a1] [] (124, I1, J1, R1) (some (.int r2)) (124, I2, J2, R2) ∧ aGood (124, I1, J1, R1) ∧ aGood (124, I2, J2, R2) ∧ lwI I2 R2 ∧ r2 = r1 := by
  obtain ⟨r1, I1, J1, R1, c1, g1, f1, cs1, m1, q1⟩ := api (ol_533 115 (by decide)) (by decide) (L := L) (xs := xs) (d := 19) (vs := [.ref 0, .int a1]) (by decide) hg ⟨g0_r (by decide), g0_i (aw _).1 (aw _).2, rfl⟩ rfl
  obtain ⟨r2, I2, J2, R2, c2, g2, f2, cs2, m2, q2⟩ := api (ol_533 116 (by decide)) (by decide) (L := L) (xs := xs) (d := 19) (vs := [.ref 86, .int a1]) (by decide) g1 ⟨g0_r (by decide), g0_i (aw _).1 (aw _).2, rfl⟩ rfl
  have hR2 : lwV I2 R2 ∧ lwK I2 ∧ lwF I2 := ⟨lwV_k f2 rfl (lwV_k f1 rfl hT.2.1), lwK_k f2 rfl (lwK_k f1 rfl hT.2.2.1), lwF_k f2 rfl (lwF_k f1 rfl hT.2.2.2)⟩
  have p1 : I1 86 1 = I 86 1 := fr_int f1 86 1 rfl
  have p3 : ∀ q, I1 87 q = I 87 q := fun q => kp_i f1 (c := 87) (k := q) (p := 265) rfl (by decide)
  have hT0 := hT.1.1
  by_cases k1 : a1.toInt < 0
  · obtain ⟨y1, y2⟩ := ev_det c1 (sg_ex0 (n := a1) (gd_of hg) k1)
    cases y1
    cases y2
    obtain ⟨y3, y4⟩ := ev_det c2 (sg_em0 (n := a1) (gd_of g1) k1)
    cases y3
    cases y4
    exact ⟨_, _, _, _, _, _, _, _, c1, c2, g1, g2, ⟨hT.1, hR2⟩, rfl⟩
  · by_cases k2 : a1.toInt > (I 1 1).toInt
    · obtain ⟨y1, y2⟩ := ev_det c1 (sg_ex1 (n := a1) (gd_of hg) (by omega) k2)
      cases y1
      cases y2
      obtain ⟨y3, y4⟩ := ev_det c2 (sg_em1 (n := a1) (gd_of g1) (by omega) (by omega))
      cases y3
      cases y4
      exact ⟨_, _, _, _, _, _, _, _, c1, c2, g1, g2, ⟨hT.1, hR2⟩, rfl⟩
    · obtain ⟨y1, y2⟩ := ev_det c1 (sg_ex2 (n := a1) (gd_of hg) (by omega) (by omega))
      cases y1
      cases y2
      obtain ⟨y3, y4⟩ := ev_det c2 (sg_em2 (n := a1) (gd_of g1) (by omega) (by show a1.toInt ≤ (I 86 1).toInt; omega))
      cases y3
      cases y4
      exact ⟨_, _, _, _, _, _, _, _, c1, c2, g1, g2, ⟨⟨rfl, fun q hq => hT.1.2 q (by have : (q : Int) < a1.toInt := hq; omega)⟩, hR2⟩, rfl⟩
theorem sp_village {L : Nat} {xs : Nat → Int32} {I : Nat → Nat → Int32} {J : Nat → Nat → Int64} {R : Nat → Nat → Nat} (hg : aGood (124, I, J, R)) (hT : lwI I R) : ∃ (r1 r2 : Int32) (I1 I2 : Nat → Nat → Int32) (J1 J2 : Nat → Nat → Int64) (R1 R2 : Nat → Nat → Nat), xEv L xs 19 17 0 [.ref 0, xmk, xmk] [] (124, I, J, R) (some (.int r1)) (124, I1, J1, R1) ∧ xEv L xs 19 148 0 [.ref 86, xmk] [] (124, I1, J1, R1) (some (.int r2)) (124, I2, J2, R2) ∧ aGood (124, I1, J1, R1) ∧ aGood (124, I2, J2, R2) ∧ lwI I2 R2 ∧ r2 = r1 := by
  obtain ⟨r1, I1, J1, R1, c1, g1, f1, cs1, m1, q1⟩ := api (ol_533 305 (by decide)) (by decide) (L := L) (xs := xs) (d := 19) (vs := [.ref 0]) (by decide) hg ⟨g0_r (by decide), rfl⟩ rfl
  obtain ⟨r2, I2, J2, R2, c2, g2, f2, cs2, m2, q2⟩ := api (ol_533 333 (by decide)) (by decide) (L := L) (xs := xs) (d := 19) (vs := [.ref 86]) (by decide) g1 ⟨g0_r (by decide), rfl⟩ rfl
  have m1' := List.mem_singleton.mp m1
  subst m1'
  have m2' := List.mem_singleton.mp m2
  subst m2'
  have t1 : 0 ≤ (I1 1 1).toInt ∧ (I1 1 1).toInt ≤ 0 := fok_at q1.2.2.1 (c := 1) (k := 1) List.mem_cons_self rfl
  have t2 : 0 ≤ (I2 86 1).toInt ∧ (I2 86 1).toInt ≤ 0 := fok_at q2.2.2.1 (c := 86) (k := 1) List.mem_cons_self rfl
  have t3 : I2 1 1 = I1 1 1 := fr_int f2 1 1 rfl
  have hT2 : lwT I2 := lwT_0 (by rw [t3]; exact t1) t2
  have b1 := good_int hg 1 1 rfl
  have b2 : (aRng 1 1) = (0, 900) := rfl
  rw [b2] at b1
  dsimp only at b1
  obtain ⟨n, hn⟩ := Int.eq_ofNat_of_zero_le b1.1
  have hn' : (I 1 1).toInt = n := hn
  have p1 : I1 86 1 = I 86 1 := fr_int f1 86 1 rfl
  have p2 : ∀ q, I1 87 q = I 87 q := fun q => kp_i f1 (c := 87) (k := q) (p := 265) rfl (by decide)
  have hb : bM I1 n = bX I n := by
    funext q
    unfold bM bX
    by_cases h : q < n
    · rw [if_pos h, if_pos h, p2]
      exact hT.1.2 q (by omega)
    · rw [if_neg h, if_neg h]
  have hm' : (I1 86 1).toInt = n := by rw [p1, ← hT.1.1]; exact hn
  obtain ⟨hT1, hV, hK, hF⟩ := hT
  obtain ⟨np0, nm0, nn0, l0, hV⟩ := hV
  rcases hV with ⟨h8, h9, hV⟩ | ⟨h8, h9, hV⟩
  · rcases vil_23 (L := L) (xs := xs) (d := 11) (d' := 13) (Jc := J) (Jr := J1) (gd_of hg) h9 h8 (gd_of g1) (by decide) (by omega) hn' hm' hb with ⟨Ic, Ir, Jc, Jr, x1, x2, u8, u9, fr, fc⟩ | ⟨mm, Ic, Ir, Jc, Jr, np, nm, nn, l, x1, x2, u8, u9, hV2, k1, -, -, -, -, fc, fr, -⟩
    · obtain ⟨y1, y2⟩ := ev_det c1 x1
      obtain ⟨y3, y4⟩ := ev_det c2 x2
      have er1 : r1 = -1 := by injection y1 with h; injection h
      have er2 : r2 = -1 := by injection y3 with h; injection h
      have eR1 : R1 = _ := congrArg (fun h : xH => h.2.2.2) y2
      have eR2 : R2 = R1 := congrArg (fun h : xH => h.2.2.2) y4
      have eI1 : I1 = uI Ic 1 1 0 := congrArg (fun h : xH => h.2.1) y2
      have eI2 : I2 = Ir := congrArg (fun h : xH => h.2.1) y4
      have w1 : ∀ c q, c ≠ 1 → ¬ (23 ≤ c ∧ c ≤ 37) → c ≠ 43 → I1 c q = I c q := fun c q t1 t2 t3 => by rw [eI1, uI_n _ _ (by omega)]; exact fc c q t1 t2 t3
      have w2 : ∀ c q, ¬ (c = 86 ∧ q ≤ 11) → ¬ (c = 88 ∧ 3 ≤ q) → ¬ ((c = 90 ∨ c = 91) ∧ 7 ≤ q) → ¬ (92 ≤ c ∧ c ≤ 95 ∧ 16 ≤ q) → ¬ (96 ≤ c ∧ c ≤ 100 ∧ 4 ≤ q) → I2 c q = I1 c q := fun c q t1 t2 t3 t4 t5 => by rw [eI2]; exact fr c q t1 t2 t3 t4 t5
      have w3 : ∀ c q, c < 86 → c ≠ 1 → ¬ (23 ≤ c ∧ c ≤ 37) → c ≠ 43 → I2 c q = I c q := fun c q t1 t2 t3 t4 => by rw [w2 c q (by omega) (by omega) (by omega) (by omega) (by omega), w1 c q t2 t3 t4]
      refine ⟨r1, r2, I1, I2, J1, J2, R1, R2, c1, c2, g1, g2, ⟨hT2, ⟨np0, nm0, nn0, l0, Or.inl ⟨by rw [eR2, eR1]; exact h8, by rw [eR2, eR1]; exact h9, VR_e_3 hV ⟨⟨w3 _ _ (by omega) (by omega) (by omega) (by omega), w3 _ _ (by omega) (by omega) (by omega) (by omega), w3 _ _ (by omega) (by omega) (by omega) (by omega), w3 _ _ (by omega) (by omega) (by omega) (by omega), w3 _ _ (by omega) (by omega) (by omega) (by omega)⟩, fun c hc q => w3 c q (by omega) (by omega) (by omega) (by omega)⟩ (fun c q hc => by rw [w2 c q (by omega) (by omega) (by omega) (by omega) (by omega), w1 c q (by omega) (by omega) (by omega)])⟩⟩, ?_, ⟨by rw [eI2, ← u8, fr 43 2 (by omega) (by omega) (by omega) (by omega) (by omega), eI1]; rfl, by rw [eI2, ← u9, fr 43 3 (by omega) (by omega) (by omega) (by omega) (by omega), eI1]; rfl⟩⟩, by rw [er1, er2]⟩
      intro i hi
      rw [w3 64 i (by omega) (by omega) (by omega) (by omega), w3 65 i (by omega) (by omega) (by omega) (by omega), w2 119 i (by omega) (by omega) (by omega) (by omega) (by omega), w2 120 i (by omega) (by omega) (by omega) (by omega) (by omega), w1 119 i (by omega) (by omega) (by omega), w1 120 i (by omega) (by omega) (by omega)]
      exact hK i hi
    · obtain ⟨y1, y2⟩ := ev_det c1 x1
      obtain ⟨y3, y4⟩ := ev_det c2 x2
      have er1 : r1 = mm := by injection y1 with h; injection h
      have er2 : r2 = mm := by injection y3 with h; injection h
      have eR1 : R1 = _ := congrArg (fun h : xH => h.2.2.2) y2
      have eR2 : R2 = R1 := congrArg (fun h : xH => h.2.2.2) y4
      have eI1 : I1 = _ := congrArg (fun h : xH => h.2.1) y2
      have eI2 : I2 = Ir := congrArg (fun h : xH => h.2.1) y4
      have w2 : ∀ c q, c < 86 → I2 c q = I1 c q := fun c q t1 => by rw [eI2]; exact fr c q (by omega) (by omega) (by omega) (by omega)
      have w3 : ∀ c q, (23 ≤ c ∧ c ≤ 42) → I2 c q = Ic c q := fun c q t1 => by rw [w2 c q (by omega), eI1]; dsimp only; rw [uI_n _ _ (by omega), uI_n _ _ (by omega), uI_n _ _ (by omega), uI_n _ _ (by omega), uI_n _ _ (by omega), uI_n _ _ (by omega), uI_n _ _ (by omega), uI_n _ _ (by omega), uI_n _ _ (by omega), uI_n _ _ (by omega), uI_n _ _ (by omega), uI_n _ _ (by omega), uI_n _ _ (by omega), uI_n _ _ (by omega), uI_n _ _ (by omega)]
      refine ⟨r1, r2, I1, I2, J1, J2, R1, R2, c1, c2, g1, g2, ⟨hT2, ⟨np, nm, nn, l, Or.inr ⟨by rw [eR2, eR1]; rfl, by rw [eR2, eR1]; rfl, VR_e_23 hV2 ⟨⟨w3 _ _ (by omega), w3 _ _ (by omega), w3 _ _ (by omega), w3 _ _ (by omega), w3 _ _ (by omega)⟩, fun c hc q => w3 c q (by omega)⟩ (fun c q hc => by rw [eI2])⟩⟩, ?_, ⟨by rw [w2 43 2 (by omega), eI1, eI2, ← u8]; rfl, by rw [w2 43 3 (by omega), eI1, eI2, ← u9]; rfl⟩⟩, by rw [er1, er2]⟩
      intro i hi
      have k2 := k1 i hi
      rw [← eI2] at k2
      refine ⟨?_, fun h => ?_⟩
      · rw [w2 64 i (by omega), eI1, k2.1]
        match i, hi with
        | 0, _ => rfl
        | 1, _ => rfl
        | 2, _ => rfl
        | 3, _ => rfl
        | 4, _ => rfl
        | 5, _ => rfl
        | 6, _ => rfl
        | i + 7, h => omega
      · rw [k2.1] at h
        exact absurd h (by decide)
  · rcases vil_3 (L := L) (xs := xs) (d := 11) (d' := 13) (Jc := J) (Jr := J1) (gd_of hg) h9 h8 (gd_of g1) (by decide) (by omega) hn' hm' hb with ⟨Ic, Ir, Jc, Jr, x1, x2, u8, u9, fr, fc⟩ | ⟨mm, Ic, Ir, Jc, Jr, np, nm, nn, l, x1, x2, u8, u9, hV2, k1, -, -, -, -, fc, fr, -⟩
    · obtain ⟨y1, y2⟩ := ev_det c1 x1
      obtain ⟨y3, y4⟩ := ev_det c2 x2
      have er1 : r1 = -1 := by injection y1 with h; injection h
      have er2 : r2 = -1 := by injection y3 with h; injection h
      have eR1 : R1 = _ := congrArg (fun h : xH => h.2.2.2) y2
      have eR2 : R2 = R1 := congrArg (fun h : xH => h.2.2.2) y4
      have eI1 : I1 = uI Ic 1 1 0 := congrArg (fun h : xH => h.2.1) y2
      have eI2 : I2 = Ir := congrArg (fun h : xH => h.2.1) y4
      have w1 : ∀ c q, c ≠ 1 → ¬ (3 ≤ c ∧ c ≤ 17) → c ≠ 43 → I1 c q = I c q := fun c q t1 t2 t3 => by rw [eI1, uI_n _ _ (by omega)]; exact fc c q t1 t2 t3
      have w2 : ∀ c q, ¬ (c = 86 ∧ q ≤ 11) → ¬ (c = 88 ∧ 3 ≤ q) → ¬ ((c = 90 ∨ c = 91) ∧ 7 ≤ q) → ¬ (92 ≤ c ∧ c ≤ 95 ∧ 16 ≤ q) → ¬ (96 ≤ c ∧ c ≤ 100 ∧ 4 ≤ q) → I2 c q = I1 c q := fun c q t1 t2 t3 t4 t5 => by rw [eI2]; exact fr c q t1 t2 t3 t4 t5
      have w3 : ∀ c q, c < 86 → c ≠ 1 → ¬ (3 ≤ c ∧ c ≤ 17) → c ≠ 43 → I2 c q = I c q := fun c q t1 t2 t3 t4 => by rw [w2 c q (by omega) (by omega) (by omega) (by omega) (by omega), w1 c q t2 t3 t4]
      refine ⟨r1, r2, I1, I2, J1, J2, R1, R2, c1, c2, g1, g2, ⟨hT2, ⟨np0, nm0, nn0, l0, Or.inr ⟨by rw [eR2, eR1]; exact h8, by rw [eR2, eR1]; exact h9, VR_e_23 hV ⟨⟨w3 _ _ (by omega) (by omega) (by omega) (by omega), w3 _ _ (by omega) (by omega) (by omega) (by omega), w3 _ _ (by omega) (by omega) (by omega) (by omega), w3 _ _ (by omega) (by omega) (by omega) (by omega), w3 _ _ (by omega) (by omega) (by omega) (by omega)⟩, fun c hc q => w3 c q (by omega) (by omega) (by omega) (by omega)⟩ (fun c q hc => by rw [w2 c q (by omega) (by omega) (by omega) (by omega) (by omega), w1 c q (by omega) (by omega) (by omega)])⟩⟩, ?_, ⟨by rw [eI2, ← u8, fr 43 2 (by omega) (by omega) (by omega) (by omega) (by omega), eI1]; rfl, by rw [eI2, ← u9, fr 43 3 (by omega) (by omega) (by omega) (by omega) (by omega), eI1]; rfl⟩⟩, by rw [er1, er2]⟩
      intro i hi
      rw [w3 64 i (by omega) (by omega) (by omega) (by omega), w3 65 i (by omega) (by omega) (by omega) (by omega), w2 119 i (by omega) (by omega) (by omega) (by omega) (by omega), w2 120 i (by omega) (by omega) (by omega) (by omega) (by omega), w1 119 i (by omega) (by omega) (by omega), w1 120 i (by omega) (by omega) (by omega)]
      exact hK i hi
    · obtain ⟨y1, y2⟩ := ev_det c1 x1
      obtain ⟨y3, y4⟩ := ev_det c2 x2
      have er1 : r1 = mm := by injection y1 with h; injection h
      have er2 : r2 = mm := by injection y3 with h; injection h
      have eR1 : R1 = _ := congrArg (fun h : xH => h.2.2.2) y2
      have eR2 : R2 = R1 := congrArg (fun h : xH => h.2.2.2) y4
      have eI1 : I1 = _ := congrArg (fun h : xH => h.2.1) y2
      have eI2 : I2 = Ir := congrArg (fun h : xH => h.2.1) y4
      have w2 : ∀ c q, c < 86 → I2 c q = I1 c q := fun c q t1 => by rw [eI2]; exact fr c q (by omega) (by omega) (by omega) (by omega)
      have w3 : ∀ c q, (3 ≤ c ∧ c ≤ 22) → I2 c q = Ic c q := fun c q t1 => by rw [w2 c q (by omega), eI1]; dsimp only; rw [uI_n _ _ (by omega), uI_n _ _ (by omega), uI_n _ _ (by omega), uI_n _ _ (by omega), uI_n _ _ (by omega), uI_n _ _ (by omega), uI_n _ _ (by omega), uI_n _ _ (by omega), uI_n _ _ (by omega), uI_n _ _ (by omega), uI_n _ _ (by omega), uI_n _ _ (by omega), uI_n _ _ (by omega), uI_n _ _ (by omega), uI_n _ _ (by omega)]
      refine ⟨r1, r2, I1, I2, J1, J2, R1, R2, c1, c2, g1, g2, ⟨hT2, ⟨np, nm, nn, l, Or.inl ⟨by rw [eR2, eR1]; rfl, by rw [eR2, eR1]; rfl, VR_e_3 hV2 ⟨⟨w3 _ _ (by omega), w3 _ _ (by omega), w3 _ _ (by omega), w3 _ _ (by omega), w3 _ _ (by omega)⟩, fun c hc q => w3 c q (by omega)⟩ (fun c q hc => by rw [eI2])⟩⟩, ?_, ⟨by rw [w2 43 2 (by omega), eI1, eI2, ← u8]; rfl, by rw [w2 43 3 (by omega), eI1, eI2, ← u9]; rfl⟩⟩, by rw [er1, er2]⟩
      intro i hi
      have k2 := k1 i hi
      rw [← eI2] at k2
      refine ⟨?_, fun h => ?_⟩
      · rw [w2 64 i (by omega), eI1, k2.1]
        match i, hi with
        | 0, _ => rfl
        | 1, _ => rfl
        | 2, _ => rfl
        | 3, _ => rfl
        | 4, _ => rfl
        | 5, _ => rfl
        | 6, _ => rfl
        | i + 7, h => omega
      · rw [k2.1] at h
        exact absurd h (by decide)
theorem sp_fault {L : Nat} {xs : Nat → Int32} {I : Nat → Nat → Int32} {J : Nat → Nat → Int64} {R : Nat → Nat → Nat} (hg : aGood (124, I, J, R)) (hT : lwI I R) (a1 : Int32) : ∃ (r1 r2 : Int32) (I1 I2 : Nat → Nat → Int32) (J1 J2 : Nat → Nat → Int64) (R1 R2 : Nat → Nat → Nat), xEv L xs 19 47 0 [.ref 0, .int a1] [] (124, I, J, R) (some (.int r1)) (124, I1, J1, R1) ∧ xEv L xs 19 147 0 [.ref 86, .int a1] [] (124, I1, J1, R1) (some (.int r2)) (124, I2, J2, R2) ∧ aGood (124, I1, J1, R1) ∧ aGood (124, I2, J2, R2) ∧ lwI I2 R2 ∧ r2 = r1 := by
  obtain ⟨r1, I1, J1, R1, c1, g1, f1, cs1, m1, q1⟩ := api (ol_533 334 (by decide)) (by decide) (L := L) (xs := xs) (d := 19) (vs := [.ref 0, .int a1]) (by decide) hg ⟨g0_r (by decide), g0_i (aw _).1 (aw _).2, rfl⟩ rfl
  obtain ⟨r2, I2, J2, R2, c2, g2, f2, cs2, m2, q2⟩ := api (ol_533 335 (by decide)) (by decide) (L := L) (xs := xs) (d := 19) (vs := [.ref 86, .int a1]) (by decide) g1 ⟨g0_r (by decide), g0_i (aw _).1 (aw _).2, rfl⟩ rfl
  obtain ⟨r, x1, x2⟩ := flt_run (L := L) (xs := xs) (d := 19) (d' := 19) (J := J) (gd_of hg) hT.2.2.2.1 hT.2.2.2.2 a1
  obtain ⟨y1, y2⟩ := ev_det c1 x1
  cases y1
  cases y2
  obtain ⟨y3, y4⟩ := ev_det c2 x2
  cases y3
  cases y4
  exact ⟨_, _, _, _, _, _, _, _, c1, c2, g1, g2, hT, rfl⟩
theorem sp_told {L : Nat} {xs : Nat → Int32} {I : Nat → Nat → Int32} {J : Nat → Nat → Int64} {R : Nat → Nat → Nat} (hg : aGood (124, I, J, R)) (hT : lwI I R) (a1 : Int32) : ∃ (r1 r2 : Int32) (I1 I2 : Nat → Nat → Int32) (J1 J2 : Nat → Nat → Int64) (R1 R2 : Nat → Nat → Nat), xEv L xs 19 48 0 [.ref 0, .int a1, xmk] [] (124, I, J, R) (some (.int r1)) (124, I1, J1, R1) ∧ xEv L xs 19 166 0 [.ref 86, .int a1, xmk] [] (124, I1, J1, R1) (some (.int r2)) (124, I2, J2, R2) ∧ aGood (124, I1, J1, R1) ∧ aGood (124, I2, J2, R2) ∧ lwI I2 R2 := by
  obtain ⟨r1, I1, J1, R1, c1, g1, f1, cs1, m1, q1⟩ := api (ol_533 347 (by decide)) (by decide) (L := L) (xs := xs) (d := 19) (vs := [.ref 0, .int a1]) (by decide) hg ⟨g0_r (by decide), g0_i (aw _).1 (aw _).2, rfl⟩ rfl
  obtain ⟨r2, I2, J2, R2, c2, g2, f2, cs2, m2, q2⟩ := api (ol_533 352 (by decide)) (by decide) (L := L) (xs := xs) (d := 19) (vs := [.ref 86, .int a1]) (by decide) g1 ⟨g0_r (by decide), g0_i (aw _).1 (aw _).2, rfl⟩ rfl
  exact ⟨r1, r2, I1, I2, J1, J2, R1, R2, c1, c2, g1, g2, lwT_k f2 (by decide) (lwT_k f1 (by decide) hT.1), ⟨lwV_k f2 rfl (lwV_k f1 rfl hT.2.1), lwK_k f2 rfl (lwK_k f1 rfl hT.2.2.1), lwF_k f2 rfl (lwF_k f1 rfl hT.2.2.2)⟩⟩
theorem sp_meeting {L : Nat} {xs : Nat → Int32} {I : Nat → Nat → Int32} {J : Nat → Nat → Int64} {R : Nat → Nat → Nat} (hg : aGood (124, I, J, R)) (hT : lwI I R) (a1 a2 : Int32) : ∃ (r1 r2 : Int32) (I1 I2 : Nat → Nat → Int32) (J1 J2 : Nat → Nat → Int64) (R1 R2 : Nat → Nat → Nat), xEv L xs 19 51 0 [.ref 0, .int a1, .int a2] [] (124, I, J, R) (some (.int r1)) (124, I1, J1, R1) ∧ xEv L xs 19 169 0 [.ref 86, .int a1, .int a2] [] (124, I1, J1, R1) (some (.int r2)) (124, I2, J2, R2) ∧ aGood (124, I1, J1, R1) ∧ aGood (124, I2, J2, R2) ∧ lwI I2 R2 := by
  obtain ⟨r1, I1, J1, R1, c1, g1, f1, cs1, m1, q1⟩ := api (ol_533 357 (by decide)) (by decide) (L := L) (xs := xs) (d := 19) (vs := [.ref 0, .int a1, .int a2]) (by decide) hg ⟨g0_r (by decide), g0_i (aw _).1 (aw _).2, g0_i (aw _).1 (aw _).2, rfl⟩ rfl
  obtain ⟨r2, I2, J2, R2, c2, g2, f2, cs2, m2, q2⟩ := api (ol_533 359 (by decide)) (by decide) (L := L) (xs := xs) (d := 19) (vs := [.ref 86, .int a1, .int a2]) (by decide) g1 ⟨g0_r (by decide), g0_i (aw _).1 (aw _).2, g0_i (aw _).1 (aw _).2, rfl⟩ rfl
  exact ⟨r1, r2, I1, I2, J1, J2, R1, R2, c1, c2, g1, g2, lwT_k f2 (by decide) (lwT_k f1 (by decide) hT.1), ⟨lwV_k f2 rfl (lwV_k f1 rfl hT.2.1), lwK_k f2 rfl (lwK_k f1 rfl hT.2.2.1), lwF_k f2 rfl (lwF_k f1 rfl hT.2.2.2)⟩⟩
theorem sp_time {L : Nat} {xs : Nat → Int32} {I : Nat → Nat → Int32} {J : Nat → Nat → Int64} {R : Nat → Nat → Nat} (hg : aGood (124, I, J, R)) (hT : lwI I R) (a1 a2 : Int32) : ∃ (r1 r2 : Int32) (I1 I2 : Nat → Nat → Int32) (J1 J2 : Nat → Nat → Int64) (R1 R2 : Nat → Nat → Nat), xEv L xs 19 52 0 [.ref 0, .int a1, .int a2] [] (124, I, J, R) (some (.int r1)) (124, I1, J1, R1) ∧ xEv L xs 19 170 0 [.ref 86, .int a1, .int a2] [] (124, I1, J1, R1) (some (.int r2)) (124, I2, J2, R2) ∧ aGood (124, I1, J1, R1) ∧ aGood (124, I2, J2, R2) ∧ lwI I2 R2 := by
  obtain ⟨r1, I1, J1, R1, c1, g1, f1, cs1, m1, q1⟩ := api (ol_533 362 (by decide)) (by decide) (L := L) (xs := xs) (d := 19) (vs := [.ref 0, .int a1, .int a2]) (by decide) hg ⟨g0_r (by decide), g0_i (aw _).1 (aw _).2, g0_i (aw _).1 (aw _).2, rfl⟩ rfl
  obtain ⟨r2, I2, J2, R2, c2, g2, f2, cs2, m2, q2⟩ := api (ol_533 364 (by decide)) (by decide) (L := L) (xs := xs) (d := 19) (vs := [.ref 86, .int a1, .int a2]) (by decide) g1 ⟨g0_r (by decide), g0_i (aw _).1 (aw _).2, g0_i (aw _).1 (aw _).2, rfl⟩ rfl
  exact ⟨r1, r2, I1, I2, J1, J2, R1, R2, c1, c2, g1, g2, lwT_k f2 (by decide) (lwT_k f1 (by decide) hT.1), ⟨lwV_k f2 rfl (lwV_k f1 rfl hT.2.1), lwK_k f2 rfl (lwK_k f1 rfl hT.2.2.1), lwF_k f2 rfl (lwF_k f1 rfl hT.2.2.2)⟩⟩
theorem sp_judge {L : Nat} {xs : Nat → Int32} {I : Nat → Nat → Int32} {J : Nat → Nat → Int64} {R : Nat → Nat → Nat} (hg : aGood (124, I, J, R)) (hT : lwI I R) : ∃ (r1 r2 : Int32) (I1 I2 : Nat → Nat → Int32) (J1 J2 : Nat → Nat → Int64) (R1 R2 : Nat → Nat → Nat), xEv L xs 19 53 0 [.ref 0, xmk] [] (124, I, J, R) (some (.int r1)) (124, I1, J1, R1) ∧ xEv L xs 19 172 0 [.ref 86, xmk, xmk] [] (124, I1, J1, R1) (some (.int r2)) (124, I2, J2, R2) ∧ aGood (124, I1, J1, R1) ∧ aGood (124, I2, J2, R2) ∧ lwI I2 R2 := by
  obtain ⟨r1, I1, J1, R1, c1, g1, f1, cs1, m1, q1⟩ := api (ol_533 380 (by decide)) (by decide) (L := L) (xs := xs) (d := 19) (vs := [.ref 0]) (by decide) hg ⟨g0_r (by decide), rfl⟩ rfl
  obtain ⟨r2, I2, J2, R2, c2, g2, f2, cs2, m2, q2⟩ := api (ol_533 385 (by decide)) (by decide) (L := L) (xs := xs) (d := 19) (vs := [.ref 86]) (by decide) g1 ⟨g0_r (by decide), rfl⟩ rfl
  have m1' := List.mem_singleton.mp m1
  subst m1'
  have m2' := List.mem_singleton.mp m2
  subst m2'
  have t1 : 0 ≤ (I1 1 1).toInt ∧ (I1 1 1).toInt ≤ 0 := fok_at q1.2.2.1 (c := 1) (k := 1) List.mem_cons_self rfl
  have t2 : 0 ≤ (I2 86 1).toInt ∧ (I2 86 1).toInt ≤ 0 := fok_at q2.2.2.1 (c := 86) (k := 1) List.mem_cons_self rfl
  have t3 : I2 1 1 = I1 1 1 := fr_int f2 1 1 rfl
  have hT2 : lwT I2 := lwT_0 (by rw [t3]; exact t1) t2
  obtain ⟨vF, I3, J3, R3, cF, eF1, eF2⟩ := judge_F (L := L) (xs := xs) (d := 18) (by decide) g1
  have hI3 : I2 = I3 := congrArg (fun h : xH => h.2.1) (ev_det c2 cF).2
  have hF1 := lwF_k f1 rfl hT.2.2.2
  have hF2 : lwF I2 := by
    unfold lwF
    rw [show I2 43 2 = I1 43 2 from fr_int f2 43 2 rfl, show I2 43 3 = I1 43 3 from fr_int f2 43 3 rfl, hI3, eF1, eF2]
    exact hF1
  exact ⟨r1, r2, I1, I2, J1, J2, R1, R2, c1, c2, g1, g2, hT2, ⟨lwV_k f2 rfl (lwV_k f1 rfl hT.2.1), lwK_k f2 rfl (lwK_k f1 rfl hT.2.2.1), hF2⟩⟩
theorem sp_judged {L : Nat} {xs : Nat → Int32} {I : Nat → Nat → Int32} {J : Nat → Nat → Int64} {R : Nat → Nat → Nat} (hg : aGood (124, I, J, R)) (hT : lwI I R) (a1 a2 : Int32) : ∃ (r1 r2 : Int32) (I1 I2 : Nat → Nat → Int32) (J1 J2 : Nat → Nat → Int64) (R1 R2 : Nat → Nat → Nat), xEv L xs 19 62 0 [.ref 0, .int a1, .int a2] [] (124, I, J, R) (some (.int r1)) (124, I1, J1, R1) ∧ xEv L xs 19 181 0 [.ref 86, .int a1, .int a2] [] (124, I1, J1, R1) (some (.int r2)) (124, I2, J2, R2) ∧ aGood (124, I1, J1, R1) ∧ aGood (124, I2, J2, R2) ∧ lwI I2 R2 := by
  obtain ⟨r1, I1, J1, R1, c1, g1, f1, cs1, m1, q1⟩ := api (ol_533 387 (by decide)) (by decide) (L := L) (xs := xs) (d := 19) (vs := [.ref 0, .int a1, .int a2]) (by decide) hg ⟨g0_r (by decide), g0_i (aw _).1 (aw _).2, g0_i (aw _).1 (aw _).2, rfl⟩ rfl
  obtain ⟨r2, I2, J2, R2, c2, g2, f2, cs2, m2, q2⟩ := api (ol_533 388 (by decide)) (by decide) (L := L) (xs := xs) (d := 19) (vs := [.ref 86, .int a1, .int a2]) (by decide) g1 ⟨g0_r (by decide), g0_i (aw _).1 (aw _).2, g0_i (aw _).1 (aw _).2, rfl⟩ rfl
  exact ⟨r1, r2, I1, I2, J1, J2, R1, R2, c1, c2, g1, g2, lwT_k f2 (by decide) (lwT_k f1 (by decide) hT.1), ⟨lwV_k f2 rfl (lwV_k f1 rfl hT.2.1), lwK_k f2 rfl (lwK_k f1 rfl hT.2.2.1), lwF_k f2 rfl (lwF_k f1 rfl hT.2.2.2)⟩⟩
theorem sp_soon {L : Nat} {xs : Nat → Int32} {I : Nat → Nat → Int32} {J : Nat → Nat → Int64} {R : Nat → Nat → Nat} (hg : aGood (124, I, J, R)) (hT : lwI I R) (a1 a2 a3 a4 : Int32) : ∃ (r1 r2 : Int32) (I1 I2 : Nat → Nat → Int32) (J1 J2 : Nat → Nat → Int64) (R1 R2 : Nat → Nat → Nat), xEv L xs 19 63 0 [.ref 0, .int a1, .int a2, .int a3, .int a4] [] (124, I, J, R) (some (.int r1)) (124, I1, J1, R1) ∧ xEv L xs 19 182 0 [.ref 86, .int a1, .int a2, .int a3, .int a4, xmk] [] (124, I1, J1, R1) (some (.int r2)) (124, I2, J2, R2) ∧ aGood (124, I1, J1, R1) ∧ aGood (124, I2, J2, R2) ∧ lwI I2 R2 := by
  obtain ⟨r1, I1, J1, R1, c1, g1, f1, cs1, m1, q1⟩ := api (ol_533 391 (by decide)) (by decide) (L := L) (xs := xs) (d := 19) (vs := [.ref 0, .int a1, .int a2, .int a3, .int a4]) (by decide) hg ⟨g0_r (by decide), g0_i (aw _).1 (aw _).2, g0_i (aw _).1 (aw _).2, g0_i (aw _).1 (aw _).2, g0_i (aw _).1 (aw _).2, rfl⟩ rfl
  obtain ⟨r2, I2, J2, R2, c2, g2, f2, cs2, m2, q2⟩ := api (ol_533 395 (by decide)) (by decide) (L := L) (xs := xs) (d := 19) (vs := [.ref 86, .int a1, .int a2, .int a3, .int a4]) (by decide) g1 ⟨g0_r (by decide), g0_i (aw _).1 (aw _).2, g0_i (aw _).1 (aw _).2, g0_i (aw _).1 (aw _).2, g0_i (aw _).1 (aw _).2, rfl⟩ rfl
  exact ⟨r1, r2, I1, I2, J1, J2, R1, R2, c1, c2, g1, g2, lwT_k f2 (by decide) (lwT_k f1 (by decide) hT.1), ⟨lwV_k f2 rfl (lwV_k f1 rfl hT.2.1), lwK_k f2 rfl (lwK_k f1 rfl hT.2.2.1), lwF_k f2 rfl (lwF_k f1 rfl hT.2.2.2)⟩⟩
theorem sp_surest {L : Nat} {xs : Nat → Int32} {I : Nat → Nat → Int32} {J : Nat → Nat → Int64} {R : Nat → Nat → Nat} (hg : aGood (124, I, J, R)) (hT : lwI I R) (a1 a2 a3 a4 a5 a6 : Int32) : ∃ (r1 r2 : Int32) (I1 I2 : Nat → Nat → Int32) (J1 J2 : Nat → Nat → Int64) (R1 R2 : Nat → Nat → Nat), xEv L xs 19 68 0 [.ref 0, .int a1, .int a2, .int a3, .int a4, .int a5, .int a6, xmk] [] (124, I, J, R) (some (.int r1)) (124, I1, J1, R1) ∧ xEv L xs 19 188 0 [.ref 86, .int a1, .int a2, .int a3, .int a4, .int a5, .int a6] [] (124, I1, J1, R1) (some (.int r2)) (124, I2, J2, R2) ∧ aGood (124, I1, J1, R1) ∧ aGood (124, I2, J2, R2) ∧ lwI I2 R2 := by
  obtain ⟨r1, I1, J1, R1, c1, g1, f1, cs1, m1, q1⟩ := api (ol_533 402 (by decide)) (by decide) (L := L) (xs := xs) (d := 19) (vs := [.ref 0, .int a1, .int a2, .int a3, .int a4, .int a5, .int a6]) (by decide) hg ⟨g0_r (by decide), g0_i (aw _).1 (aw _).2, g0_i (aw _).1 (aw _).2, g0_i (aw _).1 (aw _).2, g0_i (aw _).1 (aw _).2, g0_i (aw _).1 (aw _).2, g0_i (aw _).1 (aw _).2, rfl⟩ rfl
  obtain ⟨r2, I2, J2, R2, c2, g2, f2, cs2, m2, q2⟩ := api (ol_533 407 (by decide)) (by decide) (L := L) (xs := xs) (d := 19) (vs := [.ref 86, .int a1, .int a2, .int a3, .int a4, .int a5, .int a6]) (by decide) g1 ⟨g0_r (by decide), g0_i (aw _).1 (aw _).2, g0_i (aw _).1 (aw _).2, g0_i (aw _).1 (aw _).2, g0_i (aw _).1 (aw _).2, g0_i (aw _).1 (aw _).2, g0_i (aw _).1 (aw _).2, rfl⟩ rfl
  exact ⟨r1, r2, I1, I2, J1, J2, R1, R2, c1, c2, g1, g2, lwT_k f2 (by decide) (lwT_k f1 (by decide) hT.1), ⟨lwV_k f2 rfl (lwV_k f1 rfl hT.2.1), lwK_k f2 rfl (lwK_k f1 rfl hT.2.2.1), lwF_k f2 rfl (lwF_k f1 rfl hT.2.2.2)⟩⟩
theorem sp_bars {L : Nat} {xs : Nat → Int32} {I : Nat → Nat → Int32} {J : Nat → Nat → Int64} {R : Nat → Nat → Nat} (hg : aGood (124, I, J, R)) (hT : lwI I R) (a1 a2 a3 a4 : Int32) : ∃ (r1 r2 : Int32) (I1 I2 : Nat → Nat → Int32) (J1 J2 : Nat → Nat → Int64) (R1 R2 : Nat → Nat → Nat), xEv L xs 19 82 0 [.ref 0, .int a1, .int a2, .int a3, .int a4, xmk, xmk, xmk] [] (124, I, J, R) (some (.int r1)) (124, I1, J1, R1) ∧ xEv L xs 19 187 0 [.ref 86, .int a1, .int a2, .int a3, .int a4, xmk, xmk] [] (124, I1, J1, R1) (some (.int r2)) (124, I2, J2, R2) ∧ aGood (124, I1, J1, R1) ∧ aGood (124, I2, J2, R2) ∧ lwI I2 R2 := by
  obtain ⟨r1, I1, J1, R1, c1, g1, f1, cs1, m1, q1⟩ := api (ol_533 408 (by decide)) (by decide) (L := L) (xs := xs) (d := 19) (vs := [.ref 0, .int a1, .int a2, .int a3, .int a4]) (by decide) hg ⟨g0_r (by decide), g0_i (aw _).1 (aw _).2, g0_i (aw _).1 (aw _).2, g0_i (aw _).1 (aw _).2, g0_i (aw _).1 (aw _).2, rfl⟩ rfl
  obtain ⟨r2, I2, J2, R2, c2, g2, f2, cs2, m2, q2⟩ := api (ol_533 409 (by decide)) (by decide) (L := L) (xs := xs) (d := 19) (vs := [.ref 86, .int a1, .int a2, .int a3, .int a4]) (by decide) g1 ⟨g0_r (by decide), g0_i (aw _).1 (aw _).2, g0_i (aw _).1 (aw _).2, g0_i (aw _).1 (aw _).2, g0_i (aw _).1 (aw _).2, rfl⟩ rfl
  exact ⟨r1, r2, I1, I2, J1, J2, R1, R2, c1, c2, g1, g2, lwT_k f2 (by decide) (lwT_k f1 (by decide) hT.1), ⟨lwV_k f2 rfl (lwV_k f1 rfl hT.2.1), lwK_k f2 rfl (lwK_k f1 rfl hT.2.2.1), lwF_k f2 rfl (lwF_k f1 rfl hT.2.2.2)⟩⟩
theorem sp_all {L : Nat} {xs : Nat → Int32} {I : Nat → Nat → Int32} {J : Nat → Nat → Int64} {R : Nat → Nat → Nat} (hg : aGood (124, I, J, R)) (hT : lwI I R) (a1 : Int32) : ∃ (r1 r2 : Int32) (I1 I2 : Nat → Nat → Int32) (J1 J2 : Nat → Nat → Int64) (R1 R2 : Nat → Nat → Nat), xEv L xs 19 83 0 [.ref 0, .int a1] [] (124, I, J, R) (some (.int r1)) (124, I1, J1, R1) ∧ xEv L xs 19 198 0 [.ref 86, .int a1] [] (124, I1, J1, R1) (some (.int r2)) (124, I2, J2, R2) ∧ aGood (124, I1, J1, R1) ∧ aGood (124, I2, J2, R2) ∧ lwI I2 R2 := by
  obtain ⟨r1, I1, J1, R1, c1, g1, f1, cs1, m1, q1⟩ := api (ol_533 432 (by decide)) (by decide) (L := L) (xs := xs) (d := 19) (vs := [.ref 0, .int a1]) (by decide) hg ⟨g0_r (by decide), g0_i (aw _).1 (aw _).2, rfl⟩ rfl
  obtain ⟨r2, I2, J2, R2, c2, g2, f2, cs2, m2, q2⟩ := api (ol_533 457 (by decide)) (by decide) (L := L) (xs := xs) (d := 19) (vs := [.ref 86, .int a1]) (by decide) g1 ⟨g0_r (by decide), g0_i (aw _).1 (aw _).2, rfl⟩ rfl
  exact ⟨r1, r2, I1, I2, J1, J2, R1, R2, c1, c2, g1, g2, lwT_k f2 (by decide) (lwT_k f1 (by decide) hT.1), ⟨lwV_k f2 rfl (lwV_k f1 rfl hT.2.1), lwK_k f2 rfl (lwK_k f1 rfl hT.2.2.1), lwF_k f2 rfl (lwF_k f1 rfl hT.2.2.2)⟩⟩
theorem sp_together {L : Nat} {xs : Nat → Int32} {I : Nat → Nat → Int32} {J : Nat → Nat → Int64} {R : Nat → Nat → Nat} (hg : aGood (124, I, J, R)) (hT : lwI I R) (a1 a2 : Int32) : ∃ (r1 r2 : Int32) (I1 I2 : Nat → Nat → Int32) (J1 J2 : Nat → Nat → Int64) (R1 R2 : Nat → Nat → Nat), xEv L xs 19 93 0 [.ref 0, .int a1, .int a2, xmk] [] (124, I, J, R) (some (.int r1)) (124, I1, J1, R1) ∧ xEv L xs 19 208 0 [.ref 86, .int a1, .int a2, xmk, xmk, xmk, xmk, xmk] [] (124, I1, J1, R1) (some (.int r2)) (124, I2, J2, R2) ∧ aGood (124, I1, J1, R1) ∧ aGood (124, I2, J2, R2) ∧ lwI I2 R2 := by
  obtain ⟨r1, I1, J1, R1, c1, g1, f1, cs1, m1, q1⟩ := api (ol_533 459 (by decide)) (by decide) (L := L) (xs := xs) (d := 19) (vs := [.ref 0, .int a1, .int a2]) (by decide) hg ⟨g0_r (by decide), g0_i (aw _).1 (aw _).2, g0_i (aw _).1 (aw _).2, rfl⟩ rfl
  obtain ⟨r2, I2, J2, R2, c2, g2, f2, cs2, m2, q2⟩ := api (ol_533 461 (by decide)) (by decide) (L := L) (xs := xs) (d := 19) (vs := [.ref 86, .int a1, .int a2]) (by decide) g1 ⟨g0_r (by decide), g0_i (aw _).1 (aw _).2, g0_i (aw _).1 (aw _).2, rfl⟩ rfl
  exact ⟨r1, r2, I1, I2, J1, J2, R1, R2, c1, c2, g1, g2, lwT_k f2 (by decide) (lwT_k f1 (by decide) hT.1), ⟨lwV_k f2 rfl (lwV_k f1 rfl hT.2.1), lwK_k f2 rfl (lwK_k f1 rfl hT.2.2.1), lwF_k f2 rfl (lwF_k f1 rfl hT.2.2.2)⟩⟩
theorem sp_reply {L : Nat} {xs : Nat → Int32} {I : Nat → Nat → Int32} {J : Nat → Nat → Int64} {R : Nat → Nat → Nat} (hg : aGood (124, I, J, R)) (hT : lwI I R) (a1 : Int32) : ∃ (r1 r2 : Int32) (I1 I2 : Nat → Nat → Int32) (J1 J2 : Nat → Nat → Int64) (R1 R2 : Nat → Nat → Nat), xEv L xs 19 95 0 [.ref 0, .int a1, xmk] [] (124, I, J, R) (some (.int r1)) (124, I1, J1, R1) ∧ xEv L xs 19 210 0 [.ref 86, .int a1, xmk, xmk, xmk] [] (124, I1, J1, R1) (some (.int r2)) (124, I2, J2, R2) ∧ aGood (124, I1, J1, R1) ∧ aGood (124, I2, J2, R2) ∧ lwI I2 R2 := by
  obtain ⟨r1, I1, J1, R1, c1, g1, f1, cs1, m1, q1⟩ := api (ol_533 466 (by decide)) (by decide) (L := L) (xs := xs) (d := 19) (vs := [.ref 0, .int a1]) (by decide) hg ⟨g0_r (by decide), g0_i (aw _).1 (aw _).2, rfl⟩ rfl
  obtain ⟨r2, I2, J2, R2, c2, g2, f2, cs2, m2, q2⟩ := api (ol_533 468 (by decide)) (by decide) (L := L) (xs := xs) (d := 19) (vs := [.ref 86, .int a1]) (by decide) g1 ⟨g0_r (by decide), g0_i (aw _).1 (aw _).2, rfl⟩ rfl
  have m1' := List.mem_singleton.mp m1
  subst m1'
  have m2' := List.mem_singleton.mp m2
  subst m2'
  have t1 : 0 ≤ (I1 1 1).toInt ∧ (I1 1 1).toInt ≤ 0 := fok_at q1.2.2.1 (c := 1) (k := 1) List.mem_cons_self rfl
  have t2 : 0 ≤ (I2 86 1).toInt ∧ (I2 86 1).toInt ≤ 0 := fok_at q2.2.2.1 (c := 86) (k := 1) List.mem_cons_self rfl
  have t3 : I2 1 1 = I1 1 1 := fr_int f2 1 1 rfl
  have hT2 : lwT I2 := lwT_0 (by rw [t3]; exact t1) t2
  exact ⟨r1, r2, I1, I2, J1, J2, R1, R2, c1, c2, g1, g2, hT2, ⟨lwV_k f2 rfl (lwV_k f1 rfl hT.2.1), lwK_k f2 rfl (lwK_k f1 rfl hT.2.2.1), lwF_k f2 rfl (lwF_k f1 rfl hT.2.2.2)⟩⟩
theorem sp_ring {L : Nat} {xs : Nat → Int32} {I : Nat → Nat → Int32} {J : Nat → Nat → Int64} {R : Nat → Nat → Nat} (hg : aGood (124, I, J, R)) (hT : lwI I R) (a1 : Int32) : ∃ (r1 r2 : Int32) (I1 I2 : Nat → Nat → Int32) (J1 J2 : Nat → Nat → Int64) (R1 R2 : Nat → Nat → Nat), xEv L xs 19 100 0 [.ref 0, .int a1, xmk] [] (124, I, J, R) (some (.int r1)) (124, I1, J1, R1) ∧ xEv L xs 19 212 0 [.ref 86, .int a1, xmk, xmk] [] (124, I1, J1, R1) (some (.int r2)) (124, I2, J2, R2) ∧ aGood (124, I1, J1, R1) ∧ aGood (124, I2, J2, R2) ∧ lwI I2 R2 := by
  obtain ⟨r1, I1, J1, R1, c1, g1, f1, cs1, m1, q1⟩ := api (ol_533 478 (by decide)) (by decide) (L := L) (xs := xs) (d := 19) (vs := [.ref 0, .int a1]) (by decide) hg ⟨g0_r (by decide), g0_i (aw _).1 (aw _).2, rfl⟩ rfl
  obtain ⟨r2, I2, J2, R2, c2, g2, f2, cs2, m2, q2⟩ := api (ol_533 479 (by decide)) (by decide) (L := L) (xs := xs) (d := 19) (vs := [.ref 86, .int a1]) (by decide) g1 ⟨g0_r (by decide), g0_i (aw _).1 (aw _).2, rfl⟩ rfl
  have m1' := List.mem_singleton.mp m1
  subst m1'
  have m2' := List.mem_singleton.mp m2
  subst m2'
  have t1 : 0 ≤ (I1 1 1).toInt ∧ (I1 1 1).toInt ≤ 0 := fok_at q1.2.2.1 (c := 1) (k := 1) List.mem_cons_self rfl
  have t2 : 0 ≤ (I2 86 1).toInt ∧ (I2 86 1).toInt ≤ 0 := fok_at q2.2.2.1 (c := 86) (k := 1) List.mem_cons_self rfl
  have t3 : I2 1 1 = I1 1 1 := fr_int f2 1 1 rfl
  have hT2 : lwT I2 := lwT_0 (by rw [t3]; exact t1) t2
  exact ⟨r1, r2, I1, I2, J1, J2, R1, R2, c1, c2, g1, g2, hT2, ⟨lwV_k f2 rfl (lwV_k f1 rfl hT.2.1), lwK_k f2 rfl (lwK_k f1 rfl hT.2.2.1), lwF_k f2 rfl (lwF_k f1 rfl hT.2.2.2)⟩⟩
theorem sp_bestRing {L : Nat} {xs : Nat → Int32} {I : Nat → Nat → Int32} {J : Nat → Nat → Int64} {R : Nat → Nat → Nat} (hg : aGood (124, I, J, R)) (hT : lwI I R) (a1 : Int32) : ∃ (r1 r2 : Int32) (I1 I2 : Nat → Nat → Int32) (J1 J2 : Nat → Nat → Int64) (R1 R2 : Nat → Nat → Nat), xEv L xs 19 109 0 [.ref 0, .int a1, xmk, xmk] [] (124, I, J, R) (some (.int r1)) (124, I1, J1, R1) ∧ xEv L xs 19 214 0 [.ref 86, .int a1, xmk, xmk, xmk, xmk] [] (124, I1, J1, R1) (some (.int r2)) (124, I2, J2, R2) ∧ aGood (124, I1, J1, R1) ∧ aGood (124, I2, J2, R2) ∧ lwI I2 R2 := by
  obtain ⟨r1, I1, J1, R1, c1, g1, f1, cs1, m1, q1⟩ := api (ol_533 482 (by decide)) (by decide) (L := L) (xs := xs) (d := 19) (vs := [.ref 0, .int a1]) (by decide) hg ⟨g0_r (by decide), g0_i (aw _).1 (aw _).2, rfl⟩ rfl
  obtain ⟨r2, I2, J2, R2, c2, g2, f2, cs2, m2, q2⟩ := api (ol_533 484 (by decide)) (by decide) (L := L) (xs := xs) (d := 19) (vs := [.ref 86, .int a1]) (by decide) g1 ⟨g0_r (by decide), g0_i (aw _).1 (aw _).2, rfl⟩ rfl
  exact ⟨r1, r2, I1, I2, J1, J2, R1, R2, c1, c2, g1, g2, lwT_k f2 (by decide) (lwT_k f1 (by decide) hT.1), ⟨lwV_k f2 rfl (lwV_k f1 rfl hT.2.1), lwK_k f2 rfl (lwK_k f1 rfl hT.2.2.1), lwF_k f2 rfl (lwF_k f1 rfl hT.2.2.2)⟩⟩
theorem sp_where {L : Nat} {xs : Nat → Int32} {I : Nat → Nat → Int32} {J : Nat → Nat → Int64} {R : Nat → Nat → Nat} (hg : aGood (124, I, J, R)) (hT : lwI I R) (a1 a2 a3 a4 a5 a6 : Int32) : ∃ (r1 r2 : Int32) (I1 I2 : Nat → Nat → Int32) (J1 J2 : Nat → Nat → Int64) (R1 R2 : Nat → Nat → Nat), xEv L xs 19 111 0 [.ref 0, .int a1, .int a2, .int a3, .int a4, .int a5, .int a6] [] (124, I, J, R) (some (.int r1)) (124, I1, J1, R1) ∧ xEv L xs 19 215 0 [.ref 86, .int a1, .int a2, .int a3, .int a4, .int a5, .int a6] [] (124, I1, J1, R1) (some (.int r2)) (124, I2, J2, R2) ∧ aGood (124, I1, J1, R1) ∧ aGood (124, I2, J2, R2) ∧ lwI I2 R2 := by
  obtain ⟨r1, I1, J1, R1, c1, g1, f1, cs1, m1, q1⟩ := api (ol_533 488 (by decide)) (by decide) (L := L) (xs := xs) (d := 19) (vs := [.ref 0, .int a1, .int a2, .int a3, .int a4, .int a5, .int a6]) (by decide) hg ⟨g0_r (by decide), g0_i (aw _).1 (aw _).2, g0_i (aw _).1 (aw _).2, g0_i (aw _).1 (aw _).2, g0_i (aw _).1 (aw _).2, g0_i (aw _).1 (aw _).2, g0_i (aw _).1 (aw _).2, rfl⟩ rfl
  obtain ⟨r2, I2, J2, R2, c2, g2, f2, cs2, m2, q2⟩ := api (ol_533 493 (by decide)) (by decide) (L := L) (xs := xs) (d := 19) (vs := [.ref 86, .int a1, .int a2, .int a3, .int a4, .int a5, .int a6]) (by decide) g1 ⟨g0_r (by decide), g0_i (aw _).1 (aw _).2, g0_i (aw _).1 (aw _).2, g0_i (aw _).1 (aw _).2, g0_i (aw _).1 (aw _).2, g0_i (aw _).1 (aw _).2, g0_i (aw _).1 (aw _).2, rfl⟩ rfl
  exact ⟨r1, r2, I1, I2, J1, J2, R1, R2, c1, c2, g1, g2, lwT_k f2 (by decide) (lwT_k f1 (by decide) hT.1), ⟨lwV_k f2 rfl (lwV_k f1 rfl hT.2.1), lwK_k f2 rfl (lwK_k f1 rfl hT.2.2.1), lwF_k f2 rfl (lwF_k f1 rfl hT.2.2.2)⟩⟩
theorem sp_ask {L : Nat} {xs : Nat → Int32} {I : Nat → Nat → Int32} {J : Nat → Nat → Int64} {R : Nat → Nat → Nat} (hg : aGood (124, I, J, R)) (hT : lwI I R) (a1 a2 a3 a4 a5 : Int32) : ∃ (r1 r2 : Int32) (I1 I2 : Nat → Nat → Int32) (J1 J2 : Nat → Nat → Int64) (R1 R2 : Nat → Nat → Nat), xEv L xs 19 114 0 [.ref 0, .int a1, .int a2, .int a3, .int a4, .int a5, xmk, xmk] [] (124, I, J, R) (some (.int r1)) (124, I1, J1, R1) ∧ xEv L xs 19 218 0 [.ref 86, .int a1, .int a2, .int a3, .int a4, .int a5, xmk, xmk] [] (124, I1, J1, R1) (some (.int r2)) (124, I2, J2, R2) ∧ aGood (124, I1, J1, R1) ∧ aGood (124, I2, J2, R2) ∧ lwI I2 R2 ∧ r2 = r1 := by
  obtain ⟨r1, I1, J1, R1, c1, g1, f1, cs1, m1, q1⟩ := api (ol_533 494 (by decide)) (by decide) (L := L) (xs := xs) (d := 19) (vs := [.ref 0, .int a1, .int a2, .int a3, .int a4, .int a5]) (by decide) hg ⟨g0_r (by decide), g0_i (aw _).1 (aw _).2, g0_i (aw _).1 (aw _).2, g0_i (aw _).1 (aw _).2, g0_i (aw _).1 (aw _).2, g0_i (aw _).1 (aw _).2, rfl⟩ rfl
  obtain ⟨r2, I2, J2, R2, c2, g2, f2, cs2, m2, q2⟩ := api (ol_533 495 (by decide)) (by decide) (L := L) (xs := xs) (d := 19) (vs := [.ref 86, .int a1, .int a2, .int a3, .int a4, .int a5]) (by decide) g1 ⟨g0_r (by decide), g0_i (aw _).1 (aw _).2, g0_i (aw _).1 (aw _).2, g0_i (aw _).1 (aw _).2, g0_i (aw _).1 (aw _).2, g0_i (aw _).1 (aw _).2, rfl⟩ rfl
  have hT2 : lwI I2 R2 := ⟨lwT_k f2 (by decide) (lwT_k f1 (by decide) hT.1), lwV_k f2 rfl (lwV_k f1 rfl hT.2.1), lwK_k f2 rfl (lwK_k f1 rfl hT.2.2.1), lwF_k f2 rfl (lwF_k f1 rfl hT.2.2.2)⟩
  have hch : ∀ q, q < 16 → 0 ≤ (I1 95 q).toInt ∧ (I1 95 q).toInt ≤ 10 := by
    intro q hq
    have z : aIn2 (aRng 95 q) (I1 95 q) := g1.2.1 95 q (show q < 32 by omega)
    rw [show aRng 95 q = (0, 10) from rfl] at z
    exact ⟨z.1, z.2⟩
  have key : r2 = r1 := by
    obtain ⟨hT1, ⟨np, nm, nn, l, hV⟩, hK, hF⟩ := hT
    rcases hV with ⟨h8, h9, hV⟩ | ⟨h8, h9, hV⟩
    · obtain ⟨r, Ic, Ir, Jc, Jr, x1, x2⟩ := aks_3 (L := L) (xs := xs) (d := 14) (d' := 16) (J := J) (Jr := J1) (gd_of hg) (gd_of g1) h8 (VR_e_3 hV ⟨⟨rfl, rfl, rfl, rfl, rfl⟩, fun _ _ _ => rfl⟩ (RE_of f1 rfl)) hch a1 a2 a3 a4 a5
      have q1 := (ev_det c1 x1).1
      have q2 := (ev_det c2 x2).1
      injection q1 with q1
      injection q1 with q1
      injection q2 with q2
      injection q2 with q2
      rw [q1, q2]
    · obtain ⟨r, Ic, Ir, Jc, Jr, x1, x2⟩ := aks_23 (L := L) (xs := xs) (d := 14) (d' := 16) (J := J) (Jr := J1) (gd_of hg) (gd_of g1) h8 (VR_e_23 hV ⟨⟨rfl, rfl, rfl, rfl, rfl⟩, fun _ _ _ => rfl⟩ (RE_of f1 rfl)) hch a1 a2 a3 a4 a5
      have q1 := (ev_det c1 x1).1
      have q2 := (ev_det c2 x2).1
      injection q1 with q1
      injection q1 with q1
      injection q2 with q2
      injection q2 with q2
      rw [q1, q2]
  exact ⟨r1, r2, I1, I2, J1, J2, R1, R2, c1, c2, g1, g2, hT2, key⟩
theorem sp_fight {L : Nat} {xs : Nat → Int32} {I : Nat → Nat → Int32} {J : Nat → Nat → Int64} {R : Nat → Nat → Nat} (hg : aGood (124, I, J, R)) (hT : lwI I R) (a1 : Int32) : ∃ (r1 r2 : Int32) (I1 I2 : Nat → Nat → Int32) (J1 J2 : Nat → Nat → Int64) (R1 R2 : Nat → Nat → Nat), xEv L xs 19 115 0 [.ref 0, .int a1, xmk] [] (124, I, J, R) (some (.int r1)) (124, I1, J1, R1) ∧ xEv L xs 19 219 0 [.ref 86, .int a1, xmk, xmk, xmk, xmk, xmk, xmk, xmk] [] (124, I1, J1, R1) (some (.int r2)) (124, I2, J2, R2) ∧ aGood (124, I1, J1, R1) ∧ aGood (124, I2, J2, R2) ∧ lwI I2 R2 := by
  obtain ⟨r1, I1, J1, R1, c1, g1, f1, cs1, m1, q1⟩ := api (ol_533 498 (by decide)) (by decide) (L := L) (xs := xs) (d := 19) (vs := [.ref 0, .int a1]) (by decide) hg ⟨g0_r (by decide), g0_i (aw _).1 (aw _).2, rfl⟩ rfl
  obtain ⟨r2, I2, J2, R2, c2, g2, f2, cs2, m2, q2⟩ := api (ol_533 499 (by decide)) (by decide) (L := L) (xs := xs) (d := 19) (vs := [.ref 86, .int a1]) (by decide) g1 ⟨g0_r (by decide), g0_i (aw _).1 (aw _).2, rfl⟩ rfl
  have m1' := List.mem_singleton.mp m1
  subst m1'
  have m2' := List.mem_singleton.mp m2
  subst m2'
  have t1 : 0 ≤ (I1 1 1).toInt ∧ (I1 1 1).toInt ≤ 0 := fok_at q1.2.2.1 (c := 1) (k := 1) List.mem_cons_self rfl
  have t2 : 0 ≤ (I2 86 1).toInt ∧ (I2 86 1).toInt ≤ 0 := fok_at q2.2.2.1 (c := 86) (k := 1) List.mem_cons_self rfl
  have t3 : I2 1 1 = I1 1 1 := fr_int f2 1 1 rfl
  have hT2 : lwT I2 := lwT_0 (by rw [t3]; exact t1) t2
  obtain ⟨vF, I3, J3, R3, cF, eF1, eF2⟩ := fight_F (L := L) (xs := xs) (d := 18) (by decide) g1 a1
  have hI3 : I2 = I3 := congrArg (fun h : xH => h.2.1) (ev_det c2 cF).2
  have hF1 := lwF_k f1 rfl hT.2.2.2
  have hF2 : lwF I2 := by
    unfold lwF
    rw [show I2 43 2 = I1 43 2 from fr_int f2 43 2 rfl, show I2 43 3 = I1 43 3 from fr_int f2 43 3 rfl, hI3, eF1, eF2]
    exact hF1
  exact ⟨r1, r2, I1, I2, J1, J2, R1, R2, c1, c2, g1, g2, hT2, ⟨lwV_k f2 rfl (lwV_k f1 rfl hT.2.1), lwK_k f2 rfl (lwK_k f1 rfl hT.2.2.1), hF2⟩⟩
theorem sp_believe {L : Nat} {xs : Nat → Int32} {I : Nat → Nat → Int32} {J : Nat → Nat → Int64} {R : Nat → Nat → Nat} (hg : aGood (124, I, J, R)) (hT : lwI I R) (a1 : Int32) : ∃ (r1 r2 : Int32) (I1 I2 : Nat → Nat → Int32) (J1 J2 : Nat → Nat → Int64) (R1 R2 : Nat → Nat → Nat), xEv L xs 19 118 0 [.ref 0, .int a1] [] (124, I, J, R) (some (.int r1)) (124, I1, J1, R1) ∧ xEv L xs 19 220 0 [.ref 86, .int a1] [] (124, I1, J1, R1) (some (.int r2)) (124, I2, J2, R2) ∧ aGood (124, I1, J1, R1) ∧ aGood (124, I2, J2, R2) ∧ lwI I2 R2 := by
  obtain ⟨r1, I1, J1, R1, c1, g1, f1, cs1, m1, q1⟩ := api (ol_533 500 (by decide)) (by decide) (L := L) (xs := xs) (d := 19) (vs := [.ref 0, .int a1]) (by decide) hg ⟨g0_r (by decide), g0_i (aw _).1 (aw _).2, rfl⟩ rfl
  obtain ⟨r2, I2, J2, R2, c2, g2, f2, cs2, m2, q2⟩ := api (ol_533 501 (by decide)) (by decide) (L := L) (xs := xs) (d := 19) (vs := [.ref 86, .int a1]) (by decide) g1 ⟨g0_r (by decide), g0_i (aw _).1 (aw _).2, rfl⟩ rfl
  exact ⟨r1, r2, I1, I2, J1, J2, R1, R2, c1, c2, g1, g2, lwT_k f2 (by decide) (lwT_k f1 (by decide) hT.1), ⟨lwV_k f2 rfl (lwV_k f1 rfl hT.2.1), lwK_k f2 rfl (lwK_k f1 rfl hT.2.2.1), lwF_k f2 rfl (lwF_k f1 rfl hT.2.2.2)⟩⟩
theorem sp_rule {L : Nat} {xs : Nat → Int32} {I : Nat → Nat → Int32} {J : Nat → Nat → Int64} {R : Nat → Nat → Nat} (hg : aGood (124, I, J, R)) (hT : lwI I R) (a1 a2 a3 : Int32) : ∃ (r1 r2 : Int32) (I1 I2 : Nat → Nat → Int32) (J1 J2 : Nat → Nat → Int64) (R1 R2 : Nat → Nat → Nat), xEv L xs 19 119 0 [.ref 0, .int a1, .int a2, .int a3, xmk] [] (124, I, J, R) (some (.int r1)) (124, I1, J1, R1) ∧ xEv L xs 19 221 0 [.ref 86, .int a1, .int a2, .int a3, xmk] [] (124, I1, J1, R1) (some (.int r2)) (124, I2, J2, R2) ∧ aGood (124, I1, J1, R1) ∧ aGood (124, I2, J2, R2) ∧ lwI I2 R2 ∧ r2 = r1 := by
  obtain ⟨r1, I1, J1, R1, c1, g1, f1, cs1, m1, q1⟩ := api (ol_533 504 (by decide)) (by decide) (L := L) (xs := xs) (d := 19) (vs := [.ref 0, .int a1, .int a2, .int a3]) (by decide) hg ⟨g0_r (by decide), g0_i (aw _).1 (aw _).2, g0_i (aw _).1 (aw _).2, g0_i (aw _).1 (aw _).2, rfl⟩ rfl
  obtain ⟨r2, I2, J2, R2, c2, g2, f2, cs2, m2, q2⟩ := api (ol_533 506 (by decide)) (by decide) (L := L) (xs := xs) (d := 19) (vs := [.ref 86, .int a1, .int a2, .int a3]) (by decide) g1 ⟨g0_r (by decide), g0_i (aw _).1 (aw _).2, g0_i (aw _).1 (aw _).2, g0_i (aw _).1 (aw _).2, rfl⟩ rfl
  have hV2 : lwV I2 R2 := lwV_k f2 rfl (lwV_k f1 rfl hT.2.1)
  have hT2 : lwT I2 := lwT_k f2 (by decide) (lwT_k f1 (by decide) hT.1)
  have hF2 : lwF I2 := lwF_k f2 rfl (lwF_k f1 rfl hT.2.2.2)
  obtain ⟨hT1, ⟨np, nm, nn, l, hV⟩, hK, hF⟩ := hT
  have e88 : I1 88 0 = I 88 0 := fr_int f1 88 0 rfl
  have key : r2 = r1 ∧ lwK I2 := by
    have fin : ∀ (x1 : (0 ≤ a1.toInt ∧ a1.toInt < 7)), r1 = I 64 a1.toNatClampNeg → I1 = uI (uI I 64 a1.toNatClampNeg a2) 65 a1.toNatClampNeg a3 → r2 = I1 119 a1.toNatClampNeg → I2 = uI (uI I1 119 a1.toNatClampNeg a2) 120 a1.toNatClampNeg a3 → r2 = r1 ∧ lwK I2 := by
      intro x1 z1 z2 z3 z4
      have ec := clamp_s (i := a1) x1.1
      have hk := hK a1.toNatClampNeg (by omega)
      refine ⟨by rw [z1, z3, z2, uI_c _ _ _ (by decide), uI_c _ _ _ (by decide), hk.1], ?_⟩
      intro i hi
      by_cases g : i = a1.toNatClampNeg
      · subst g
        rw [z4, z2]
        refine ⟨?_, fun _ => ?_⟩
        · rw [uI_c _ _ _ (by decide), uI_c _ _ _ (by decide), uI_c _ _ _ (by decide), uI_s, uI_c _ _ _ (by decide), uI_s]
        · rw [uI_c _ _ _ (by decide), uI_c _ _ _ (by decide), uI_s, uI_s]
      · have n : ∀ c q, ¬ (q = a1.toNatClampNeg) → I2 c q = I c q := fun c q hq => by rw [z4, z2, uI_n _ _ (fun z => hq z.2), uI_n _ _ (fun z => hq z.2), uI_n _ _ (fun z => hq z.2), uI_n _ _ (fun z => hq z.2)]
        rw [n 64 i g, n 65 i g, n 119 i g, n 120 i g]
        exact hK i hi
    have nofin : r1 = -2 → I1 = I → r2 = -2 → I2 = I1 → r2 = r1 ∧ lwK I2 := by
      intro z1 z2 z3 z4
      exact ⟨by rw [z1, z3], by rw [z4, z2]; exact hK⟩
    rcases hV with ⟨h8, h9, hV⟩ | ⟨h8, h9, hV⟩
    · rcases rul_3 (L := L) (xs := xs) (d := 18) (d' := 17) (I := I) (J := J) (I1 := I1) (J1 := J1) (gd_of hg) (gd_of g1) h8 hV.1.1 hV.2.2.2.2.1.1 (by rw [e88]; exact hV.2.2.2.2.1.2) a1 a2 a3 with ⟨x1, x2⟩ | ⟨t1, t2, -, -, -, x1, x2⟩
      · obtain ⟨y1, y2⟩ := ev_det c1 x1
        obtain ⟨y3, y4⟩ := ev_det c2 x2
        exact nofin (by injection y1 with h; injection h) (congrArg (fun h : xH => h.2.1) y2) (by injection y3 with h; injection h) (congrArg (fun h : xH => h.2.1) y4)
      · obtain ⟨y1, y2⟩ := ev_det c1 x1
        obtain ⟨y3, y4⟩ := ev_det c2 x2
        have := hV.1.1
        exact fin ⟨t1, by omega⟩ (by injection y1 with h; injection h) (congrArg (fun h : xH => h.2.1) y2) (by injection y3 with h; injection h) (congrArg (fun h : xH => h.2.1) y4)
    · rcases rul_23 (L := L) (xs := xs) (d := 18) (d' := 17) (I := I) (J := J) (I1 := I1) (J1 := J1) (gd_of hg) (gd_of g1) h8 hV.1.1 hV.2.2.2.2.1.1 (by rw [e88]; exact hV.2.2.2.2.1.2) a1 a2 a3 with ⟨x1, x2⟩ | ⟨t1, t2, -, -, -, x1, x2⟩
      · obtain ⟨y1, y2⟩ := ev_det c1 x1
        obtain ⟨y3, y4⟩ := ev_det c2 x2
        exact nofin (by injection y1 with h; injection h) (congrArg (fun h : xH => h.2.1) y2) (by injection y3 with h; injection h) (congrArg (fun h : xH => h.2.1) y4)
      · obtain ⟨y1, y2⟩ := ev_det c1 x1
        obtain ⟨y3, y4⟩ := ev_det c2 x2
        have := hV.1.1
        exact fin ⟨t1, by omega⟩ (by injection y1 with h; injection h) (congrArg (fun h : xH => h.2.1) y2) (by injection y3 with h; injection h) (congrArg (fun h : xH => h.2.1) y4)
  exact ⟨r1, r2, I1, I2, J1, J2, R1, R2, c1, c2, g1, g2, ⟨hT2, hV2, key.2, hF2⟩, key.1⟩
theorem sp_begin {L : Nat} {xs : Nat → Int32} {I : Nat → Nat → Int32} {J : Nat → Nat → Int64} {R : Nat → Nat → Nat} (hg : aGood (124, I, J, R)) (hT : lwI I R) (a1 : Int32) : ∃ (r1 r2 : Int32) (I1 I2 : Nat → Nat → Int32) (J1 J2 : Nat → Nat → Int64) (R1 R2 : Nat → Nat → Nat), xEv L xs 19 120 0 [.ref 0, .int a1] [] (124, I, J, R) (some (.int r1)) (124, I1, J1, R1) ∧ xEv L xs 19 222 0 [.ref 86, .int a1, xmk] [] (124, I1, J1, R1) (some (.int r2)) (124, I2, J2, R2) ∧ aGood (124, I1, J1, R1) ∧ aGood (124, I2, J2, R2) ∧ lwI I2 R2 := by
  obtain ⟨r1, I1, J1, R1, c1, g1, f1, cs1, m1, q1⟩ := api (ol_533 508 (by decide)) (by decide) (L := L) (xs := xs) (d := 19) (vs := [.ref 0, .int a1]) (by decide) hg ⟨g0_r (by decide), g0_i (aw _).1 (aw _).2, rfl⟩ rfl
  obtain ⟨r2, I2, J2, R2, c2, g2, f2, cs2, m2, q2⟩ := api (ol_533 509 (by decide)) (by decide) (L := L) (xs := xs) (d := 19) (vs := [.ref 86, .int a1]) (by decide) g1 ⟨g0_r (by decide), g0_i (aw _).1 (aw _).2, rfl⟩ rfl
  exact ⟨r1, r2, I1, I2, J1, J2, R1, R2, c1, c2, g1, g2, lwT_k f2 (by decide) (lwT_k f1 (by decide) hT.1), ⟨lwV_k f2 rfl (lwV_k f1 rfl hT.2.1), lwK_k f2 rfl (lwK_k f1 rfl hT.2.2.1), lwF_k f2 rfl (lwF_k f1 rfl hT.2.2.2)⟩⟩
theorem sp_go {L : Nat} {xs : Nat → Int32} {I : Nat → Nat → Int32} {J : Nat → Nat → Int64} {R : Nat → Nat → Nat} (hg : aGood (124, I, J, R)) (hT : lwI I R) (a1 : Int32) : ∃ (r1 r2 : Int32) (I1 I2 : Nat → Nat → Int32) (J1 J2 : Nat → Nat → Int64) (R1 R2 : Nat → Nat → Nat), xEv L xs 19 122 0 [.ref 0, .int a1, xmk] [] (124, I, J, R) (some (.int r1)) (124, I1, J1, R1) ∧ xEv L xs 19 223 0 [.ref 86, .int a1, xmk] [] (124, I1, J1, R1) (some (.int r2)) (124, I2, J2, R2) ∧ aGood (124, I1, J1, R1) ∧ aGood (124, I2, J2, R2) ∧ lwI I2 R2 := by
  obtain ⟨r1, I1, J1, R1, c1, g1, f1, cs1, m1, q1⟩ := api (ol_533 510 (by decide)) (by decide) (L := L) (xs := xs) (d := 19) (vs := [.ref 0, .int a1]) (by decide) hg ⟨g0_r (by decide), g0_i (aw _).1 (aw _).2, rfl⟩ rfl
  obtain ⟨r2, I2, J2, R2, c2, g2, f2, cs2, m2, q2⟩ := api (ol_533 511 (by decide)) (by decide) (L := L) (xs := xs) (d := 19) (vs := [.ref 86, .int a1]) (by decide) g1 ⟨g0_r (by decide), g0_i (aw _).1 (aw _).2, rfl⟩ rfl
  exact ⟨r1, r2, I1, I2, J1, J2, R1, R2, c1, c2, g1, g2, lwT_k f2 (by decide) (lwT_k f1 (by decide) hT.1), ⟨lwV_k f2 rfl (lwV_k f1 rfl hT.2.1), lwK_k f2 rfl (lwK_k f1 rfl hT.2.2.1), lwF_k f2 rfl (lwF_k f1 rfl hT.2.2.2)⟩⟩
theorem sp_now {L : Nat} {xs : Nat → Int32} {I : Nat → Nat → Int32} {J : Nat → Nat → Int64} {R : Nat → Nat → Nat} (hg : aGood (124, I, J, R)) (hT : lwI I R) (a1 a2 : Int32) : ∃ (r1 r2 : Int32) (I1 I2 : Nat → Nat → Int32) (J1 J2 : Nat → Nat → Int64) (R1 R2 : Nat → Nat → Nat), xEv L xs 19 133 0 [.ref 0, .int a1, .int a2] [] (124, I, J, R) (some (.int r1)) (124, I1, J1, R1) ∧ xEv L xs 19 231 0 [.ref 86, .int a1, .int a2] [] (124, I1, J1, R1) (some (.int r2)) (124, I2, J2, R2) ∧ aGood (124, I1, J1, R1) ∧ aGood (124, I2, J2, R2) ∧ lwI I2 R2 := by
  obtain ⟨r1, I1, J1, R1, c1, g1, f1, cs1, m1, q1⟩ := api (ol_533 512 (by decide)) (by decide) (L := L) (xs := xs) (d := 19) (vs := [.ref 0, .int a1, .int a2]) (by decide) hg ⟨g0_r (by decide), g0_i (aw _).1 (aw _).2, g0_i (aw _).1 (aw _).2, rfl⟩ rfl
  obtain ⟨r2, I2, J2, R2, c2, g2, f2, cs2, m2, q2⟩ := api (ol_533 514 (by decide)) (by decide) (L := L) (xs := xs) (d := 19) (vs := [.ref 86, .int a1, .int a2]) (by decide) g1 ⟨g0_r (by decide), g0_i (aw _).1 (aw _).2, g0_i (aw _).1 (aw _).2, rfl⟩ rfl
  exact ⟨r1, r2, I1, I2, J1, J2, R1, R2, c1, c2, g1, g2, lwT_k f2 (by decide) (lwT_k f1 (by decide) hT.1), ⟨lwV_k f2 rfl (lwV_k f1 rfl hT.2.1), lwK_k f2 rfl (lwK_k f1 rfl hT.2.2.1), lwF_k f2 rfl (lwF_k f1 rfl hT.2.2.2)⟩⟩
theorem sp_head {L : Nat} {xs : Nat → Int32} {I : Nat → Nat → Int32} {J : Nat → Nat → Int64} {R : Nat → Nat → Nat} (hg : aGood (124, I, J, R)) (hT : lwI I R) (a1 a2 : Int32) : ∃ (r1 r2 : Int32) (I1 I2 : Nat → Nat → Int32) (J1 J2 : Nat → Nat → Int64) (R1 R2 : Nat → Nat → Nat), xEv L xs 19 134 0 [.ref 0, .int a1, .int a2] [] (124, I, J, R) (some (.int r1)) (124, I1, J1, R1) ∧ xEv L xs 19 232 0 [.ref 86, .int a1, .int a2] [] (124, I1, J1, R1) (some (.int r2)) (124, I2, J2, R2) ∧ aGood (124, I1, J1, R1) ∧ aGood (124, I2, J2, R2) ∧ lwI I2 R2 := by
  obtain ⟨r1, I1, J1, R1, c1, g1, f1, cs1, m1, q1⟩ := api (ol_533 516 (by decide)) (by decide) (L := L) (xs := xs) (d := 19) (vs := [.ref 0, .int a1, .int a2]) (by decide) hg ⟨g0_r (by decide), g0_i (aw _).1 (aw _).2, g0_i (aw _).1 (aw _).2, rfl⟩ rfl
  obtain ⟨r2, I2, J2, R2, c2, g2, f2, cs2, m2, q2⟩ := api (ol_533 518 (by decide)) (by decide) (L := L) (xs := xs) (d := 19) (vs := [.ref 86, .int a1, .int a2]) (by decide) g1 ⟨g0_r (by decide), g0_i (aw _).1 (aw _).2, g0_i (aw _).1 (aw _).2, rfl⟩ rfl
  exact ⟨r1, r2, I1, I2, J1, J2, R1, R2, c1, c2, g1, g2, lwT_k f2 (by decide) (lwT_k f1 (by decide) hT.1), ⟨lwV_k f2 rfl (lwV_k f1 rfl hT.2.1), lwK_k f2 rfl (lwK_k f1 rfl hT.2.2.1), lwF_k f2 rfl (lwF_k f1 rfl hT.2.2.2)⟩⟩
theorem sp_keep {L : Nat} {xs : Nat → Int32} {I : Nat → Nat → Int32} {J : Nat → Nat → Int64} {R : Nat → Nat → Nat} (hg : aGood (124, I, J, R)) (hT : lwI I R) (a1 : Int32) : ∃ (r1 r2 : Int32) (I1 I2 : Nat → Nat → Int32) (J1 J2 : Nat → Nat → Int64) (R1 R2 : Nat → Nat → Nat), xEv L xs 19 135 0 [.ref 0, .int a1, xmk] [] (124, I, J, R) (some (.int r1)) (124, I1, J1, R1) ∧ xEv L xs 19 233 0 [.ref 86, .int a1, xmk] [] (124, I1, J1, R1) (some (.int r2)) (124, I2, J2, R2) ∧ aGood (124, I1, J1, R1) ∧ aGood (124, I2, J2, R2) ∧ lwI I2 R2 := by
  obtain ⟨r1, I1, J1, R1, c1, g1, f1, cs1, m1, q1⟩ := api (ol_533 521 (by decide)) (by decide) (L := L) (xs := xs) (d := 19) (vs := [.ref 0, .int a1]) (by decide) hg ⟨g0_r (by decide), g0_i (aw _).1 (aw _).2, rfl⟩ rfl
  obtain ⟨r2, I2, J2, R2, c2, g2, f2, cs2, m2, q2⟩ := api (ol_533 523 (by decide)) (by decide) (L := L) (xs := xs) (d := 19) (vs := [.ref 86, .int a1]) (by decide) g1 ⟨g0_r (by decide), g0_i (aw _).1 (aw _).2, rfl⟩ rfl
  exact ⟨r1, r2, I1, I2, J1, J2, R1, R2, c1, c2, g1, g2, lwT_k f2 (by decide) (lwT_k f1 (by decide) hT.1), ⟨lwV_k f2 rfl (lwV_k f1 rfl hT.2.1), lwK_k f2 rfl (lwK_k f1 rfl hT.2.2.1), lwF_k f2 rfl (lwF_k f1 rfl hT.2.2.2)⟩⟩
theorem sp_take {L : Nat} {xs : Nat → Int32} {I : Nat → Nat → Int32} {J : Nat → Nat → Int64} {R : Nat → Nat → Nat} (hg : aGood (124, I, J, R)) (hT : lwI I R) (a1 : Int32) : ∃ (r1 r2 : Int32) (I1 I2 : Nat → Nat → Int32) (J1 J2 : Nat → Nat → Int64) (R1 R2 : Nat → Nat → Nat), xEv L xs 19 138 0 [.ref 0, .int a1, xmk] [] (124, I, J, R) (some (.int r1)) (124, I1, J1, R1) ∧ xEv L xs 19 235 0 [.ref 86, .int a1, xmk] [] (124, I1, J1, R1) (some (.int r2)) (124, I2, J2, R2) ∧ aGood (124, I1, J1, R1) ∧ aGood (124, I2, J2, R2) ∧ lwI I2 R2 := by
  obtain ⟨r1, I1, J1, R1, c1, g1, f1, cs1, m1, q1⟩ := api (ol_533 525 (by decide)) (by decide) (L := L) (xs := xs) (d := 19) (vs := [.ref 0, .int a1]) (by decide) hg ⟨g0_r (by decide), g0_i (aw _).1 (aw _).2, rfl⟩ rfl
  obtain ⟨r2, I2, J2, R2, c2, g2, f2, cs2, m2, q2⟩ := api (ol_533 526 (by decide)) (by decide) (L := L) (xs := xs) (d := 19) (vs := [.ref 86, .int a1]) (by decide) g1 ⟨g0_r (by decide), g0_i (aw _).1 (aw _).2, rfl⟩ rfl
  exact ⟨r1, r2, I1, I2, J1, J2, R1, R2, c1, c2, g1, g2, lwT_k f2 (by decide) (lwT_k f1 (by decide) hT.1), ⟨lwV_k f2 rfl (lwV_k f1 rfl hT.2.1), lwK_k f2 rfl (lwK_k f1 rfl hT.2.2.1), lwF_k f2 rfl (lwF_k f1 rfl hT.2.2.2)⟩⟩
theorem sp_count {L : Nat} {xs : Nat → Int32} {I : Nat → Nat → Int32} {J : Nat → Nat → Int64} {R : Nat → Nat → Nat} (hg : aGood (124, I, J, R)) (hT : lwI I R) (a1 : Int32) : ∃ (r1 r2 : Int32) (I1 I2 : Nat → Nat → Int32) (J1 J2 : Nat → Nat → Int64) (R1 R2 : Nat → Nat → Nat), xEv L xs 19 139 0 [.ref 0, .int a1] [] (124, I, J, R) (some (.int r1)) (124, I1, J1, R1) ∧ xEv L xs 19 236 0 [.ref 86, .int a1] [] (124, I1, J1, R1) (some (.int r2)) (124, I2, J2, R2) ∧ aGood (124, I1, J1, R1) ∧ aGood (124, I2, J2, R2) ∧ lwI I2 R2 := by
  obtain ⟨r1, I1, J1, R1, c1, g1, f1, cs1, m1, q1⟩ := api (ol_533 527 (by decide)) (by decide) (L := L) (xs := xs) (d := 19) (vs := [.ref 0, .int a1]) (by decide) hg ⟨g0_r (by decide), g0_i (aw _).1 (aw _).2, rfl⟩ rfl
  obtain ⟨r2, I2, J2, R2, c2, g2, f2, cs2, m2, q2⟩ := api (ol_533 528 (by decide)) (by decide) (L := L) (xs := xs) (d := 19) (vs := [.ref 86, .int a1]) (by decide) g1 ⟨g0_r (by decide), g0_i (aw _).1 (aw _).2, rfl⟩ rfl
  exact ⟨r1, r2, I1, I2, J1, J2, R1, R2, c1, c2, g1, g2, lwT_k f2 (by decide) (lwT_k f1 (by decide) hT.1), ⟨lwV_k f2 rfl (lwV_k f1 rfl hT.2.1), lwK_k f2 rfl (lwK_k f1 rfl hT.2.2.1), lwF_k f2 rfl (lwF_k f1 rfl hT.2.2.2)⟩⟩
