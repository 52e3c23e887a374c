theorem inj_rv {a b : Int32} (h : some (Value.int a) = some (Value.int b)) : a = b := by
  injection h with h
  injection h
theorem inj_hI {I I' : Nat → Nat → Int32} {J J' : Nat → Nat → Int64} {R R' : Nat → Nat → Nat} (h : ((124, I, J, R) : xH) = (124, I', J', R')) : I = I' := by
  cases h
  rfl
theorem inj_hJ {I I' : Nat → Nat → Int32} {J J' : Nat → Nat → Int64} {R R' : Nat → Nat → Nat} (h : ((124, I, J, R) : xH) = (124, I', J', R')) : J = J' := by
  cases h
  rfl
/-- the kinds are kinds -/
def lwQ (I : Nat → Nat → Int32) : Prop := ∀ i, i < 7 → 0 ≤ (I 119 i).toInt ∧ (I 119 i).toInt ≤ 5
/-- the times are those of the hours -/
def lwL (I : Nat → Nat → Int32) : Prop := ∃ l, hrS (I 88 1).toNatClampNeg l I ∧ (I 86 26).toInt = l.length ∧ ∀ (t a b : Nat), l[t]? = some (a, b) → (I 102 t).toInt = a ∧ (I 101 t).toInt = b
/-- the run and its slots -/
def lwR (I : Nat → Nat → Int32) (J : Nat → Nat → Int64) : Prop := rnS 66 0 0 (I 121 0) (I 88 0).toNatClampNeg (I 88 2).toNatClampNeg I J ∧ rnS 71 25 1 (I 123 0) (I 88 0).toNatClampNeg (I 88 2).toNatClampNeg I J ∧ rnS 76 50 2 (I 123 1) (I 88 0).toNatClampNeg (I 88 2).toNatClampNeg I J ∧ rnS 81 75 3 (I 123 2) (I 88 0).toNatClampNeg (I 88 2).toNatClampNeg I J
def lwA (I : Nat → Nat → Int32) (J : Nat → Nat → Int64) (R : Nat → Nat → Nat) : Prop := lwI I R ∧ lwL I ∧ lwQ I ∧ lwR I J
theorem lst_eq {l l' : List (Nat × Nat)} {f g : Nat → Int} (h : l.length = l'.length) (h1 : ∀ (t a b : Nat), l[t]? = some (a, b) → f t = a ∧ g t = b) (h2 : ∀ (t a b : Nat), l'[t]? = some (a, b) → f t = a ∧ g t = b) : l = l' := by
  refine List.ext_getElem? fun t => ?_
  by_cases ht : t < l.length
  · obtain ⟨⟨a, b⟩, hx⟩ : ∃ x, l[t]? = some x := ⟨_, List.getElem?_eq_getElem ht⟩
    obtain ⟨⟨a', b'⟩, hy⟩ : ∃ x, l'[t]? = some x := ⟨_, List.getElem?_eq_getElem (by omega)⟩
    obtain ⟨e1, e2⟩ := h1 t a b hx
    obtain ⟨e3, e4⟩ := h2 t a' b' hy
    rw [hx, hy, show a = a' by omega, show b = b' by omega]
  · rw [List.getElem?_eq_none (by omega), List.getElem?_eq_none (by omega)]
theorem lwQ_k {m : Nat} {I I1 : Nat → Nat → Int32} {J J1 : Nat → Nat → Int64} {R R1 : Nat → Nat → Nat} (f : aFr m (124, I, J, R) (124, I1, J1, R1)) (h : kpK m = true) (hK : lwQ I) : lwQ I1 := by
  intro i hi
  rw [show I1 119 i = I 119 i from kp_i f (c := 119) (k := i) (p := 302) rfl (kp_m h rfl)]
  exact hK i hi
theorem hrS_w {nm : Nat} {l : List (Nat × Nat)} {I I1 : Nat → Nat → Int32} (h : hrS nm l I) (e : ∀ k, k < nm → I1 94 k = I 94 k) : hrS nm l I1 := by
  obtain ⟨h1, h2⟩ := h
  refine ⟨?_, fun k hk => by rw [e k hk]; exact h2 k hk⟩
  rw [h1]
  exact tOut_e (fun k hk => by rw [e k hk]) 96
theorem lwL_w {I I1 : Nat → Nat → Int32} (n16 : (I 88 1).toNatClampNeg ≤ 16) (h1 : I1 88 1 = I 88 1) (h2 : I1 86 26 = I 86 26) (h3 : ∀ t, I1 101 t = I 101 t) (h4 : ∀ t, I1 102 t = I 102 t) (h5 : ∀ k, k < 16 → I1 94 k = I 94 k) (hL : lwL I) : lwL I1 := by
  obtain ⟨l, a1, a2, a3⟩ := hL
  refine ⟨l, ?_, ?_, fun t a b ht => ?_⟩
  · rw [h1]
    exact hrS_w a1 (fun k hk => h5 k (by omega))
  · rw [h2]
    exact a2
  · rw [h3, h4]
    exact a3 t a b ht
theorem lwL_k {m : Nat} {I I1 : Nat → Nat → Int32} {J J1 : Nat → Nat → Int64} {R R1 : Nat → Nat → Nat} (f : aFr m (124, I, J, R) (124, I1, J1, R1)) (h : kpV m = true) (hL : lwL I) : lwL I1 := by
  obtain ⟨l, h1, h2, h3⟩ := hL
  have e94 : ∀ q, I1 94 q = I 94 q := fun q => kp_i f (c := 94) (k := q) (p := 277) rfl (kp_m h rfl)
  refine ⟨l, ?_, ?_, fun t a b ht => ?_⟩
  · rw [show I1 88 1 = I 88 1 from kp_i f (c := 88) (k := 1) (p := 267) rfl (kp_m h rfl)]
    exact hrS_e h1 e94
  · rw [show I1 86 26 = I 86 26 from kp_i f (c := 86) (k := 26) (p := 232) rfl (kp_m h rfl)]
    exact h2
  · rw [show I1 102 t = I 102 t from kp_i f (c := 102) (k := t) (p := 285) rfl (kp_m h rfl), show I1 101 t = I 101 t from kp_i f (c := 101) (k := t) (p := 284) rfl (kp_m h rfl)]
    exact h3 t a b ht
theorem lwL_v3 {np nm nn : Nat} {l : List (Nat × Nat)} {I : Nat → Nat → Int32} (hV : VR_3 np nm nn l I I) (hL : lwL I) : hrS nm l I := by
  obtain ⟨l', h1, h2, h3⟩ := hL
  obtain ⟨⟨p1, p2, p3⟩, p4, p5, p6, ⟨q1, q2⟩, ⟨q3, q4⟩, ⟨q5, q6⟩, q7, q8, q9, ⟨q10, q11⟩, q12, -⟩ := hV
  have ec := clamp_s (i := I 88 1) (by omega)
  have em : (I 88 1).toNatClampNeg = nm := by omega
  rw [em] at h1
  have e : l' = l := lst_eq (f := fun t => (I 102 t).toInt) (g := fun t => (I 101 t).toInt) (by omega) h3 (fun t a b h => ⟨(q12 t a b h).2.1, (q12 t a b h).2.2.2.1⟩)
  rw [e] at h1
  exact h1
theorem lwL_v23 {np nm nn : Nat} {l : List (Nat × Nat)} {I : Nat → Nat → Int32} (hV : VR_23 np nm nn l I I) (hL : lwL I) : hrS nm l I := by
  obtain ⟨l', h1, h2, h3⟩ := hL
  obtain ⟨⟨p1, p2, p3⟩, p4, p5, p6, ⟨q1, q2⟩, ⟨q3, q4⟩, ⟨q5, q6⟩, q7, q8, q9, ⟨q10, q11⟩, q12, -⟩ := hV
  have ec := clamp_s (i := I 88 1) (by omega)
  have em : (I 88 1).toNatClampNeg = nm := by omega
  rw [em] at h1
  have e : l' = l := lst_eq (f := fun t => (I 102 t).toInt) (g := fun t => (I 101 t).toInt) (by omega) h3 (fun t a b h => ⟨(q12 t a b h).2.1, (q12 t a b h).2.2.2.1⟩)
  rw [e] at h1
  exact h1
def kpC66 (m : Nat) : Bool := [162, 163, 164, 165, 166, 167, 168, 169].all (kpP m)
theorem rk_66 {m : Nat} {I I1 : Nat → Nat → Int32} {J J1 : Nat → Nat → Int64} {R R1 : Nat → Nat → Nat} (f : aFr m (124, I, J, R) (124, I1, J1, R1)) (h : kpC66 m = true) : rnEq 66 66 I1 I J1 J := ⟨kp_i f (c := 66) (k := 4) (p := 162) rfl (kp_m h rfl), kp_i f (c := 66) (k := 5) (p := 163) rfl (kp_m h rfl), kp_i f (c := 66) (k := 6) (p := 164) rfl (kp_m h rfl), kp_l f (c := 66) (k := 7) (p := 165) rfl (kp_m h rfl), fun q _ => ⟨kp_i f (c := 67) (k := q) (p := 166) rfl (kp_m h rfl), kp_i f (c := 68) (k := q) (p := 167) rfl (kp_m h rfl), kp_i f (c := 69) (k := q) (p := 168) rfl (kp_m h rfl), kp_i f (c := 70) (k := q) (p := 169) rfl (kp_m h rfl)⟩⟩
def kpC71 (m : Nat) : Bool := [174, 175, 176, 177, 178, 179, 180, 181].all (kpP m)
theorem rk_71 {m : Nat} {I I1 : Nat → Nat → Int32} {J J1 : Nat → Nat → Int64} {R R1 : Nat → Nat → Nat} (f : aFr m (124, I, J, R) (124, I1, J1, R1)) (h : kpC71 m = true) : rnEq 71 71 I1 I J1 J := ⟨kp_i f (c := 71) (k := 4) (p := 174) rfl (kp_m h rfl), kp_i f (c := 71) (k := 5) (p := 175) rfl (kp_m h rfl), kp_i f (c := 71) (k := 6) (p := 176) rfl (kp_m h rfl), kp_l f (c := 71) (k := 7) (p := 177) rfl (kp_m h rfl), fun q _ => ⟨kp_i f (c := 72) (k := q) (p := 178) rfl (kp_m h rfl), kp_i f (c := 73) (k := q) (p := 179) rfl (kp_m h rfl), kp_i f (c := 74) (k := q) (p := 180) rfl (kp_m h rfl), kp_i f (c := 75) (k := q) (p := 181) rfl (kp_m h rfl)⟩⟩
def kpC76 (m : Nat) : Bool := [186, 187, 188, 189, 190, 191, 192, 193].all (kpP m)
theorem rk_76 {m : Nat} {I I1 : Nat → Nat → Int32} {J J1 : Nat → Nat → Int64} {R R1 : Nat → Nat → Nat} (f : aFr m (124, I, J, R) (124, I1, J1, R1)) (h : kpC76 m = true) : rnEq 76 76 I1 I J1 J := ⟨kp_i f (c := 76) (k := 4) (p := 186) rfl (kp_m h rfl), kp_i f (c := 76) (k := 5) (p := 187) rfl (kp_m h rfl), kp_i f (c := 76) (k := 6) (p := 188) rfl (kp_m h rfl), kp_l f (c := 76) (k := 7) (p := 189) rfl (kp_m h rfl), fun q _ => ⟨kp_i f (c := 77) (k := q) (p := 190) rfl (kp_m h rfl), kp_i f (c := 78) (k := q) (p := 191) rfl (kp_m h rfl), kp_i f (c := 79) (k := q) (p := 192) rfl (kp_m h rfl), kp_i f (c := 80) (k := q) (p := 193) rfl (kp_m h rfl)⟩⟩
def kpC81 (m : Nat) : Bool := [198, 199, 200, 201, 202, 203, 204, 205].all (kpP m)
theorem rk_81 {m : Nat} {I I1 : Nat → Nat → Int32} {J J1 : Nat → Nat → Int64} {R R1 : Nat → Nat → Nat} (f : aFr m (124, I, J, R) (124, I1, J1, R1)) (h : kpC81 m = true) : rnEq 81 81 I1 I J1 J := ⟨kp_i f (c := 81) (k := 4) (p := 198) rfl (kp_m h rfl), kp_i f (c := 81) (k := 5) (p := 199) rfl (kp_m h rfl), kp_i f (c := 81) (k := 6) (p := 200) rfl (kp_m h rfl), kp_l f (c := 81) (k := 7) (p := 201) rfl (kp_m h rfl), fun q _ => ⟨kp_i f (c := 82) (k := q) (p := 202) rfl (kp_m h rfl), kp_i f (c := 83) (k := q) (p := 203) rfl (kp_m h rfl), kp_i f (c := 84) (k := q) (p := 204) rfl (kp_m h rfl), kp_i f (c := 85) (k := q) (p := 205) rfl (kp_m h rfl)⟩⟩
theorem rnEq_t {c a : Nat} {I I1 I2 : Nat → Nat → Int32} {J J1 J2 : Nat → Nat → Int64} (h : rnEq c c I2 I1 J2 J1) (g : rnEq c a I1 I J1 J) : rnEq c a I2 I J2 J :=
  ⟨h.1.trans g.1, h.2.1.trans g.2.1, h.2.2.1.trans g.2.2.1, h.2.2.2.1.trans g.2.2.2.1, fun q hq => ⟨(h.2.2.2.2 q hq).1.trans (g.2.2.2.2 q hq).1, (h.2.2.2.2 q hq).2.1.trans (g.2.2.2.2 q hq).2.1, (h.2.2.2.2 q hq).2.2.1.trans (g.2.2.2.2 q hq).2.2.1, (h.2.2.2.2 q hq).2.2.2.trans (g.2.2.2.2 q hq).2.2.2⟩⟩
theorem kp_c121 {m : Nat} {I I1 : Nat → Nat → Int32} {J J1 : Nat → Nat → Int64} {R R1 : Nat → Nat → Nat} (f : aFr m (124, I, J, R) (124, I1, J1, R1)) (h : ((List.range 100).map (fun q => 304 + q)).all (kpP m) = true) : ∀ q, q < 100 → I1 121 q = I 121 q := by
  intro q hq
  exact kp_i f (c := 121) (k := q) (p := 304 + q) rfl (List.all_eq_true.mp h _ (List.mem_map.mpr ⟨q, List.mem_range.mpr hq, rfl⟩))
theorem kp_d121 {m : Nat} {I I1 : Nat → Nat → Int32} {J J1 : Nat → Nat → Int64} {R R1 : Nat → Nat → Nat} (f : aFr m (124, I, J, R) (124, I1, J1, R1)) (h : ((List.range 75).map (fun q => 304 + (25 + q))).all (kpP m) = true) : ∀ q, 25 ≤ q → q < 100 → I1 121 q = I 121 q := by
  intro q h1 h2
  obtain ⟨j, rfl⟩ : ∃ j, q = 25 + j := ⟨q - 25, by omega⟩
  exact kp_i f (c := 121) (k := 25 + j) (p := 304 + (25 + j)) rfl (List.all_eq_true.mp h _ (List.mem_map.mpr ⟨j, List.mem_range.mpr (by omega), rfl⟩))
/-- the slots stay, the run is new -/
theorem lwR_s {I I1 : Nat → Nat → Int32} {J J1 : Nat → Nat → Int64} (n7 : (I 88 0).toNatClampNeg ≤ 7) (e1 : rnEq 71 71 I1 I J1 J) (e2 : rnEq 76 76 I1 I J1 J) (e3 : rnEq 81 81 I1 I J1 J) (h1 : ∀ q, 25 ≤ q → q < 100 → I1 121 q = I 121 q) (h2 : ∀ q, q < 3 → I1 123 q = I 123 q) (h3 : I1 88 0 = I 88 0) (h4 : I1 88 2 = I 88 2) (hs : ∀ s, 1 ≤ s → s < 4 → J1 122 s = J 122 s) (h0 : rnS 66 0 0 (I1 121 0) (I1 88 0).toNatClampNeg (I1 88 2).toNatClampNeg I1 J1) (hR : lwR I J) : lwR I1 J1 := by
  obtain ⟨-, r1, r2, r3⟩ := hR
  unfold lwR
  rw [h3, h4] at h0 ⊢
  exact ⟨h0, rnS_m n7 r1 e1 (fun q hq => h1 (25 + q) (by omega) (by omega)) (hs 1 (by omega) (by omega)) (h2 0 (by omega)), rnS_m n7 r2 e2 (fun q hq => h1 (50 + q) (by omega) (by omega)) (hs 2 (by omega) (by omega)) (h2 1 (by omega)), rnS_m n7 r3 e3 (fun q hq => h1 (75 + q) (by omega) (by omega)) (hs 3 (by omega) (by omega)) (h2 2 (by omega))⟩
theorem lwR_e {I I1 : Nat → Nat → Int32} {J J1 : Nat → Nat → Int64} (n7 : (I 88 0).toNatClampNeg ≤ 7) (e0 : rnEq 66 66 I1 I J1 J) (e1 : rnEq 71 71 I1 I J1 J) (e2 : rnEq 76 76 I1 I J1 J) (e3 : rnEq 81 81 I1 I J1 J) (h1 : ∀ q, q < 100 → I1 121 q = I 121 q) (h2 : ∀ q, q < 3 → I1 123 q = I 123 q) (h3 : I1 88 0 = I 88 0) (h4 : I1 88 2 = I 88 2) (hs : ∀ s, s < 4 → J1 122 s = J 122 s) (hR : lwR I J) : lwR I1 J1 := by
  refine lwR_s n7 e1 e2 e3 (fun q _ hq => h1 q hq) h2 h3 h4 (fun s _ hq => hs s hq) ?_ hR
  rw [h3, h4]
  exact rnS_m n7 hR.1 e0 (fun q hq => h1 (0 + q) (by omega)) (hs 0 (by omega)) (h1 0 (by omega))
def kpR (m : Nat) : Bool := kpC66 m && kpC71 m && kpC76 m && kpC81 m && [404, 405, 266, 268].all (kpP m)
theorem lwR_k {m : Nat} {I I1 : Nat → Nat → Int32} {J J1 : Nat → Nat → Int64} {R R1 : Nat → Nat → Nat} (f : aFr m (124, I, J, R) (124, I1, J1, R1)) (h : kpR m = true) (h2 : ((List.range 100).map (fun q => 304 + q)).all (kpP m) = true) (n7 : (I 88 0).toNatClampNeg ≤ 7) (hR : lwR I J) : lwR I1 J1 := by
  unfold kpR at h
  simp only [Bool.and_eq_true] at h
  obtain ⟨⟨⟨⟨k1, k2⟩, k3⟩, k4⟩, h⟩ := h
  exact lwR_e n7 (rk_66 f k1) (rk_71 f k2) (rk_76 f k3) (rk_81 f k4) (kp_c121 f h2) (fun q _ => kp_i f (c := 123) (k := q) (p := 405) rfl (kp_m h rfl)) (kp_i f (c := 88) (k := 0) (p := 266) rfl (kp_m h rfl)) (kp_i f (c := 88) (k := 2) (p := 268) rfl (kp_m h rfl)) (fun s _ => kp_l f (c := 122) (k := s) (p := 404) rfl (kp_m h rfl)) hR
theorem np_7 {I : Nat → Nat → Int32} {R : Nat → Nat → Nat} (hV : lwV I R) : (I 88 0).toNatClampNeg ≤ 7 := by
  obtain ⟨np, nm, nn, l, ⟨-, -, hV⟩ | ⟨-, -, hV⟩⟩ := hV
  · have p1 := hV.1.1
    have q2 := hV.2.2.2.2.1.2
    have ec := clamp_s (i := I 88 0) (by omega)
    omega
  · have p1 := hV.1.1
    have q2 := hV.2.2.2.2.1.2
    have ec := clamp_s (i := I 88 0) (by omega)
    omega
theorem nm_16 {I : Nat → Nat → Int32} {R : Nat → Nat → Nat} (hV : lwV I R) : (I 88 1).toNatClampNeg ≤ 16 := by
  obtain ⟨np, nm, nn, l, ⟨-, -, hV⟩ | ⟨-, -, hV⟩⟩ := hV
  · have p1 := hV.1.2.1
    have q2 := hV.2.2.2.2.2.1.2
    have ec := clamp_s (i := I 88 1) (by omega)
    omega
  · have p1 := hV.1.2.1
    have q2 := hV.2.2.2.2.2.1.2
    have ec := clamp_s (i := I 88 1) (by omega)
    omega
theorem gR_x {np nn : Nat} {I Ir Ir1 : Nat → Nat → Int32} {J Jr Jr1 : Nat → Nat → Int64} (h : gR np nn I Ir J Jr) (e1 : ∀ q, q < 25 → Ir1 121 q = Ir 121 q) (e2 : Jr1 122 0 = Jr 122 0) (n7 : np ≤ 7) : gR np nn I Ir1 J Jr1 := by
  obtain ⟨g1, g2, g3, g4, g5, g6⟩ := h
  refine ⟨fun n hn => ?_, g2, fun p hp => ?_, by rw [e2]; exact g4, g5, g6⟩
  · rw [e1 (9 + n) (by omega), e1 (13 + n) (by omega), e1 (17 + n) (by omega), e1 (21 + n) (by omega)]
    exact g1 n hn
  · rw [e1 (2 + p) (by omega)]
    exact g3 p hp
theorem gR_y {np nn : Nat} {I I1 Ir : Nat → Nat → Int32} {J J1 Jr : Nat → Nat → Int64} (h : gR np nn I Ir J Jr) (e6 : I1 66 6 = I 66 6) (e : ∀ c q, 67 ≤ c → c ≤ 70 → I1 c q = I c q) (e7 : J1 66 7 = J 66 7) : gR np nn I1 Ir J1 Jr := by
  obtain ⟨g1, g2, g3, g4, g5, g6⟩ := h
  refine ⟨fun n hn => ?_, fun n h1 h2 => ?_, fun p hp => ?_, by rw [e7]; exact g4, by rw [e7]; exact g5, by rw [e7]; exact g6⟩
  · rw [e 67 n (by omega) (by omega), e 68 n (by omega) (by omega), e 69 n (by omega) (by omega), e 70 n (by omega) (by omega)]
    exact g1 n hn
  · rw [e 67 n (by omega) (by omega)]
    exact g2 n h1 h2
  · rw [e6]
    exact g3 p hp
theorem i3_of {a : Int32} (h : 0 ≤ a.toInt ∧ a.toInt ≤ 2) : a = 0 ∨ a = 1 ∨ a = 2 := by
  have h3 : a.toInt = 0 ∨ a.toInt = 1 ∨ a.toInt = 2 := by omega
  rcases h3 with h3 | h3 | h3
  · exact Or.inl (Int32.toInt_inj.mp h3)
  · exact Or.inr (Or.inl (Int32.toInt_inj.mp h3))
  · exact Or.inr (Or.inr (Int32.toInt_inj.mp h3))
