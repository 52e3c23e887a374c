theorem inj_rv {a b : Int32} (h : some (Value.int a) = some (Value.int b)) : a = b := by
  injection h with h
  injection h
theorem inj_hI {I I' : Nat → Nat → Int32} {J J' : Nat → Nat → Int64} {R R' : Nat → Nat → Nat} (h : ((124, I, J, R) : xH) = (124, I', J', R')) : I = I' := by
  cases h
  rfl
theorem inj_hR {I I' : Nat → Nat → Int32} {J J' : Nat → Nat → Int64} {R R' : Nat → Nat → Nat} (h : ((124, I, J, R) : xH) = (124, I', J', R')) : R = R' := by
  cases h
  rfl
/-- the times are those of the hours -/
def lwL (I : Nat → Nat → Int32) : Prop := ∃ l, hrS (I 88 1).toNatClampNeg l I ∧ (I 86 26).toInt = l.length ∧ ∀ (t a b : Nat), l[t]? = some (a, b) → (I 102 t).toInt = a ∧ (I 101 t).toInt = b
/-- what is known is so -/
def lwP (I : Nat → Nat → Int32) (R : Nat → Nat → Nat) : Prop := I 57 8 = 0 ∨ (I 57 8 = 1 ∧ (R 0 8 = 4 → yPW_3 I) ∧ (R 0 8 = 24 → yPW_23 I))
def lwA (I : Nat → Nat → Int32) (J : Nat → Nat → Int64) (R : Nat → Nat → Nat) : Prop := lwI I R ∧ lwL I ∧ lwP I R
theorem lst_eq {l l' : List (Nat × Nat)} {f g : Nat → Int} (h : l.length = l'.length) (h1 : ∀ (t a b : Nat), l[t]? = some (a, b) → f t = a ∧ g t = b) (h2 : ∀ (t a b : Nat), l'[t]? = some (a, b) → f t = a ∧ g t = b) : l = l' := by
  refine List.ext_getElem? fun t => ?_
  by_cases ht : t < l.length
  · obtain ⟨⟨a, b⟩, hx⟩ : ∃ x, l[t]? = some x := ⟨_, List.getElem?_eq_getElem ht⟩
    obtain ⟨⟨a', b'⟩, hy⟩ : ∃ x, l'[t]? = some x := ⟨_, List.getElem?_eq_getElem (by omega)⟩
    obtain ⟨e1, e2⟩ := h1 t a b hx
    obtain ⟨e3, e4⟩ := h2 t a' b' hy
    rw [hx, hy, show a = a' by omega, show b = b' by omega]
  · rw [List.getElem?_eq_none (by omega), List.getElem?_eq_none (by omega)]
theorem hrS_w {nm : Nat} {l : List (Nat × Nat)} {I I1 : Nat → Nat → Int32} (h : hrS nm l I) (e : ∀ k, k < nm → I1 94 k = I 94 k) : hrS nm l I1 := by
  obtain ⟨h1, h2⟩ := h
  refine ⟨?_, fun k hk => by rw [e k hk]; exact h2 k hk⟩
  rw [h1]
  exact tOut_e (fun k hk => by rw [e k hk]) 96
theorem lwL_w {I I1 : Nat → Nat → Int32} (n16 : (I 88 1).toNatClampNeg ≤ 16) (h1 : I1 88 1 = I 88 1) (h2 : I1 86 26 = I 86 26) (h3 : ∀ t, I1 101 t = I 101 t) (h4 : ∀ t, I1 102 t = I 102 t) (h5 : ∀ k, k < 16 → I1 94 k = I 94 k) (hL : lwL I) : lwL I1 := by
  obtain ⟨l, a1, a2, a3⟩ := hL
  refine ⟨l, ?_, ?_, fun t a b ht => ?_⟩
  · rw [h1]
    exact hrS_w a1 (fun k hk => h5 k (by omega))
  · rw [h2]
    exact a2
  · rw [h3, h4]
    exact a3 t a b ht
theorem lwL_k {m : Nat} {I I1 : Nat → Nat → Int32} {J J1 : Nat → Nat → Int64} {R R1 : Nat → Nat → Nat} (f : aFr m (124, I, J, R) (124, I1, J1, R1)) (h : kpV m = true) (hL : lwL I) : lwL I1 := by
  obtain ⟨l, h1, h2, h3⟩ := hL
  have e94 : ∀ q, I1 94 q = I 94 q := fun q => kp_i f (c := 94) (k := q) (p := 277) rfl (kp_m h rfl)
  refine ⟨l, ?_, ?_, fun t a b ht => ?_⟩
  · rw [show I1 88 1 = I 88 1 from kp_i f (c := 88) (k := 1) (p := 267) rfl (kp_m h rfl)]
    exact hrS_e h1 e94
  · rw [show I1 86 26 = I 86 26 from kp_i f (c := 86) (k := 26) (p := 232) rfl (kp_m h rfl)]
    exact h2
  · rw [show I1 102 t = I 102 t from kp_i f (c := 102) (k := t) (p := 285) rfl (kp_m h rfl), show I1 101 t = I 101 t from kp_i f (c := 101) (k := t) (p := 284) rfl (kp_m h rfl)]
    exact h3 t a b ht
theorem np_7 {I : Nat → Nat → Int32} {R : Nat → Nat → Nat} (hV : lwV I R) : (I 88 0).toNatClampNeg ≤ 7 := by
  obtain ⟨np, nm, nn, l, ⟨-, -, hV⟩ | ⟨-, -, hV⟩⟩ := hV
  · have p1 := hV.1.1
    have q2 := hV.2.2.2.2.1.2
    have ec := clamp_s (i := I 88 0) (by omega)
    omega
  · have p1 := hV.1.1
    have q2 := hV.2.2.2.2.1.2
    have ec := clamp_s (i := I 88 0) (by omega)
    omega
theorem nm_16 {I : Nat → Nat → Int32} {R : Nat → Nat → Nat} (hV : lwV I R) : (I 88 1).toNatClampNeg ≤ 16 := by
  obtain ⟨np, nm, nn, l, ⟨-, -, hV⟩ | ⟨-, -, hV⟩⟩ := hV
  · have p1 := hV.1.2.1
    have q2 := hV.2.2.2.2.2.1.2
    have ec := clamp_s (i := I 88 1) (by omega)
    omega
  · have p1 := hV.1.2.1
    have q2 := hV.2.2.2.2.2.1.2
    have ec := clamp_s (i := I 88 1) (by omega)
    omega
theorem lwL_v3 {np nm nn : Nat} {l : List (Nat × Nat)} {I : Nat → Nat → Int32} (hV : VR_3 np nm nn l I I) (hL : lwL I) : hrS nm l I := by
  obtain ⟨l', h1, h2, h3⟩ := hL
  obtain ⟨⟨p1, p2, p3⟩, p4, p5, p6, ⟨q1, q2⟩, ⟨q3, q4⟩, ⟨q5, q6⟩, q7, q8, q9, ⟨q10, q11⟩, q12, -⟩ := hV
  have ec := clamp_s (i := I 88 1) (by omega)
  have em : (I 88 1).toNatClampNeg = nm := by omega
  rw [em] at h1
  have e : l' = l := lst_eq (f := fun t => (I 102 t).toInt) (g := fun t => (I 101 t).toInt) (by omega) h3 (fun t a b h => ⟨(q12 t a b h).2.1, (q12 t a b h).2.2.2.1⟩)
  rw [e] at h1
  exact h1
theorem lwL_v23 {np nm nn : Nat} {l : List (Nat × Nat)} {I : Nat → Nat → Int32} (hV : VR_23 np nm nn l I I) (hL : lwL I) : hrS nm l I := by
  obtain ⟨l', h1, h2, h3⟩ := hL
  obtain ⟨⟨p1, p2, p3⟩, p4, p5, p6, ⟨q1, q2⟩, ⟨q3, q4⟩, ⟨q5, q6⟩, q7, q8, q9, ⟨q10, q11⟩, q12, -⟩ := hV
  have ec := clamp_s (i := I 88 1) (by omega)
  have em : (I 88 1).toNatClampNeg = nm := by omega
  rw [em] at h1
  have e : l' = l := lst_eq (f := fun t => (I 102 t).toInt) (g := fun t => (I 101 t).toInt) (by omega) h3 (fun t a b h => ⟨(q12 t a b h).2.1, (q12 t a b h).2.2.2.1⟩)
  rw [e] at h1
  exact h1
def kpPl : List Nat := [8, 135, 137, 147, 33, 31, 53, 36, 42, 43, 45, 46, 47, 56, 57, 58, 75, 73, 95, 78, 84, 85, 87, 88, 89, 98, 99, 100]
theorem lwP_k {m : Nat} {I I1 : Nat → Nat → Int32} {J J1 : Nat → Nat → Int64} {R R1 : Nat → Nat → Nat} (f : aFr m (124, I, J, R) (124, I1, J1, R1)) (h : kpPl.all (kpP m) = true) (hP : lwP I R) : lwP I1 R1 := by
  have e8 : I1 57 8 = I 57 8 := kp_i f (c := 57) (k := 8) (p := 137) rfl (kp_m h rfl)
  have e6 : I1 57 6 = I 57 6 := kp_i f (c := 57) (k := 6) (p := 135) rfl (kp_m h rfl)
  have e61 : ∀ j, I1 61 j = I 61 j := fun j => kp_i f (c := 61) (k := j) (p := 147) rfl (kp_m h rfl)
  have eR : R1 0 8 = R 0 8 := kp_r f (c := 0) (k := 8) (p := 8) rfl (kp_m h rfl)
  have w3 : zWf_3 I1 = zWf_3 I := zWf_e_3 (kp_i f (c := 3) (k := 16) (p := 33) rfl (kp_m h rfl)) (kp_i f (c := 3) (k := 14) (p := 31) rfl (kp_m h rfl)) (kp_i f (c := 17) (k := 5) (p := 53) rfl (kp_m h rfl)) (fun c hc k => by
    rcases hc with rfl | rfl | rfl | rfl | rfl | rfl | rfl | rfl | rfl
    · exact kp_i f (c := 20) (k := k) (p := 56) rfl (kp_m h rfl)
    · exact kp_i f (c := 21) (k := k) (p := 57) rfl (kp_m h rfl)
    · exact kp_i f (c := 22) (k := k) (p := 58) rfl (kp_m h rfl)
    · exact kp_i f (c := 5) (k := k) (p := 36) rfl (kp_m h rfl)
    · exact kp_i f (c := 15) (k := k) (p := 46) rfl (kp_m h rfl)
    · exact kp_i f (c := 11) (k := k) (p := 42) rfl (kp_m h rfl)
    · exact kp_i f (c := 12) (k := k) (p := 43) rfl (kp_m h rfl)
    · exact kp_i f (c := 14) (k := k) (p := 45) rfl (kp_m h rfl)
    · exact kp_i f (c := 16) (k := k) (p := 47) rfl (kp_m h rfl))
  have w23 : zWf_23 I1 = zWf_23 I := zWf_e_23 (kp_i f (c := 23) (k := 16) (p := 75) rfl (kp_m h rfl)) (kp_i f (c := 23) (k := 14) (p := 73) rfl (kp_m h rfl)) (kp_i f (c := 37) (k := 5) (p := 95) rfl (kp_m h rfl)) (fun c hc k => by
    rcases hc with rfl | rfl | rfl | rfl | rfl | rfl | rfl | rfl | rfl
    · exact kp_i f (c := 40) (k := k) (p := 98) rfl (kp_m h rfl)
    · exact kp_i f (c := 41) (k := k) (p := 99) rfl (kp_m h rfl)
    · exact kp_i f (c := 42) (k := k) (p := 100) rfl (kp_m h rfl)
    · exact kp_i f (c := 25) (k := k) (p := 78) rfl (kp_m h rfl)
    · exact kp_i f (c := 35) (k := k) (p := 88) rfl (kp_m h rfl)
    · exact kp_i f (c := 31) (k := k) (p := 84) rfl (kp_m h rfl)
    · exact kp_i f (c := 32) (k := k) (p := 85) rfl (kp_m h rfl)
    · exact kp_i f (c := 34) (k := k) (p := 87) rfl (kp_m h rfl)
    · exact kp_i f (c := 36) (k := k) (p := 89) rfl (kp_m h rfl))
  rcases hP with h | ⟨h, h3, h23⟩
  · exact Or.inl (by rw [e8]; exact h)
  · refine Or.inr ⟨by rw [e8]; exact h, fun r => ?_, fun r => ?_⟩
    · rw [eR] at r
      obtain ⟨a, b⟩ := h3 r
      unfold yPW_3
      rw [w3, e6]
      exact ⟨a, yW_e b e61⟩
    · rw [eR] at r
      obtain ⟨a, b⟩ := h23 r
      unfold yPW_23
      rw [w23, e6]
      exact ⟨a, yW_e b e61⟩
