/-- the run of both -/
def gR (np nn : Nat) (I Ir : Nat → Nat → Int32) (J Jr : Nat → Nat → Int64) : Prop := (∀ n, n < 4 → I 67 n = Ir 121 (9 + n) ∧ I 68 n = Ir 121 (13 + n) ∧ I 69 n = Ir 121 (17 + n) ∧ I 70 n = Ir 121 (21 + n)) ∧ (∀ n, nn ≤ n → n < 4 → I 67 n = -1) ∧ (∀ p, p < np → Ir 121 (2 + p) = if tb (I 66 6) p then 1 else 0) ∧ Jr 122 0 = J 66 7 ∧ 0 ≤ (J 66 7).toInt ∧ (J 66 7).toInt < 2147483648
theorem gR_e {np nn : Nat} {I I1 Ir Ir1 : Nat → Nat → Int32} {J J1 Jr Jr1 : Nat → Nat → Int64} (h : gR np nn I Ir J Jr) (e1 : ∀ c k, 66 ≤ c → c ≤ 70 → I1 c k = I c k) (e2 : ∀ k, Ir1 121 k = Ir 121 k) (e3 : J1 66 7 = J 66 7) (e4 : Jr1 122 0 = Jr 122 0) : gR np nn I1 Ir1 J1 Jr1 := by
  obtain ⟨g1, g2, g3, g4, g5, g6⟩ := h
  refine ⟨fun n hn => ?_, fun n h1 h2 => ?_, fun p hp => ?_, by rw [e3, e4]; exact g4, by rw [e3]; exact g5, by rw [e3]; exact g6⟩
  · rw [e1 67 n (by omega) (by omega), e1 68 n (by omega) (by omega), e1 69 n (by omega) (by omega), e1 70 n (by omega) (by omega), e2, e2, e2, e2]
    exact g1 n hn
  · rw [e1 67 n (by omega) (by omega)]
    exact g2 n h1 h2
  · rw [e1 66 6 (by omega) (by omega), e2]
    exact g3 p hp
/-- a piece goes over -/
def cM (I : Nat → Nat → Int32) (m : Nat) (p q : Int32) : Nat → Nat → Int32 := uI (uI (uI I 67 m q) 70 m p) 68 m (I 68 m + 1)
def rM (I : Nat → Nat → Int32) (m : Nat) (p q : Int32) : Nat → Nat → Int32 := uI (uI (uI I 121 (9 + m) q) 121 (13 + m) (I 121 (13 + m) + 1)) 121 (21 + m) p
theorem cM_n (I : Nat → Nat → Int32) (m : Nat) (p q : Int32) {c k : Nat} (h : ¬ ((c = 67 ∨ c = 68 ∨ c = 70) ∧ k = m)) : cM I m p q c k = I c k := by
  unfold cM
  rw [uI_n _ _ (by omega), uI_n _ _ (by omega), uI_n _ _ (by omega)]
theorem rM_n (I : Nat → Nat → Int32) (m : Nat) (p q : Int32) {c k : Nat} (h : ¬ (c = 121 ∧ (k = 9 + m ∨ k = 13 + m ∨ k = 21 + m))) : rM I m p q c k = I c k := by
  unfold rM
  rw [uI_n _ _ (by omega), uI_n _ _ (by omega), uI_n _ _ (by omega)]
theorem cM_s (I : Nat → Nat → Int32) (m : Nat) (p q : Int32) : cM I m p q 67 m = q ∧ cM I m p q 68 m = I 68 m + 1 ∧ cM I m p q 70 m = p := by
  unfold cM
  refine ⟨?_, ?_, ?_⟩
  · rw [uI_n _ _ (by omega), uI_n _ _ (by omega), uI_s]
  · rw [uI_s]
  · rw [uI_n _ _ (by omega), uI_s]
theorem rM_s (I : Nat → Nat → Int32) (m : Nat) (p q : Int32) : rM I m p q 121 (9 + m) = q ∧ rM I m p q 121 (13 + m) = I 121 (13 + m) + 1 ∧ rM I m p q 121 (21 + m) = p := by
  unfold rM
  refine ⟨?_, ?_, ?_⟩
  · rw [uI_n _ _ (by omega), uI_n _ _ (by omega), uI_s]
  · rw [uI_n _ _ (by omega), uI_s]
  · rw [uI_s]
theorem gR_mv {np nn : Nat} {I Ir : Nat → Nat → Int32} {J Jr : Nat → Nat → Int64} (h : gR np nn I Ir J Jr) (n7 : np ≤ 7) {m : Nat} (hm : m < nn) (n4 : nn ≤ 4) (p q : Int32) : gR np nn (cM I m p q) (rM Ir m p q) J Jr := by
  obtain ⟨g1, g2, g3, g4⟩ := h
  refine ⟨fun n hn => ?_, fun n h1 h2 => ?_, fun i hi => ?_, g4⟩
  · obtain ⟨a1, a2, a3, a4⟩ := g1 n hn
    by_cases e : n = m
    · obtain ⟨c1, c2, c3⟩ := cM_s I m p q
      obtain ⟨d1, d2, d3⟩ := rM_s Ir m p q
      rw [e] at a1 a2 a3 a4 ⊢
      rw [c1, c2, c3, d1, d2, d3, cM_n I m p q (by omega), rM_n Ir m p q (by omega), a2, a3]
      exact ⟨rfl, rfl, rfl, rfl⟩
    · rw [cM_n I m p q (by omega), cM_n I m p q (by omega), cM_n I m p q (by omega), cM_n I m p q (by omega), rM_n Ir m p q (by omega), rM_n Ir m p q (by omega), rM_n Ir m p q (by omega), rM_n Ir m p q (by omega)]
      exact ⟨a1, a2, a3, a4⟩
  · rw [cM_n I m p q (by omega)]
    exact g2 n h1 h2
  · rw [cM_n I m p q (by omega), rM_n Ir m p q (by omega)]
    exact g3 i hi
theorem gR_cm {np nn : Nat} {I Ir : Nat → Nat → Int32} {J Jr : Nat → Nat → Int64} (h : gR np nn I Ir J Jr) (n7 : np ≤ 7) {m : Nat} (hm : m < nn) (n4 : nn ≤ 4) (t : Int32) : gR np nn (uI I 69 m t) (uI Ir 121 (17 + m) t) J Jr := by
  obtain ⟨g1, g2, g3, g4⟩ := h
  refine ⟨fun n hn => ?_, fun n h1 h2 => ?_, fun i hi => ?_, g4⟩
  · obtain ⟨a1, a2, a3, a4⟩ := g1 n hn
    rw [uI_n I t (by omega : ¬ (67 = 69 ∧ n = m)), uI_n I t (by omega : ¬ (68 = 69 ∧ n = m)), uI_n I t (by omega : ¬ (70 = 69 ∧ n = m)), uI_n Ir t (by omega : ¬ (121 = 121 ∧ 9 + n = 17 + m)), uI_n Ir t (by omega : ¬ (121 = 121 ∧ 13 + n = 17 + m)), uI_n Ir t (by omega : ¬ (121 = 121 ∧ 21 + n = 17 + m))]
    refine ⟨a1, a2, ?_, a4⟩
    by_cases e : n = m
    · rw [e, uI_s, uI_s]
    · rw [uI_n I t (by omega), uI_n Ir t (by omega)]
      exact a3
  · rw [uI_n I t (by omega)]
    exact g2 n h1 h2
  · rw [uI_n I t (by omega), uI_n Ir t (by omega)]
    exact g3 i hi
/-- how many one has, of both -/
theorem gR_now {np nn : Nat} {I Ir : Nat → Nat → Int32} {J Jr : Nat → Nat → Int64} (h : gR np nn I Ir J Jr) (n4 : nn ≤ 4) {q : Int32} (hq : 0 ≤ q.toInt) : pcF (I 67) q 4 = pcF (fun n => Ir 121 (9 + n)) q nn ∧ pcN (I 67) q 4 = pcN (fun n => Ir 121 (9 + n)) q nn := by
  obtain ⟨g1, g2, -⟩ := h
  obtain ⟨x1, x2⟩ := pcF_x (f := I 67) (q := q) nn (4 - nn) (fun i h1 h2 => by
    rw [g2 i h1 (by omega)]
    intro e
    rw [← e, show (-1 : Int32).toInt = -1 from by decide] at hq
    omega)
  rw [show nn + (4 - nn) = 4 from by omega] at x1 x2
  obtain ⟨y1, y2⟩ := pcF_c (f := I 67) (g := fun n => Ir 121 (9 + n)) (q := q) nn (fun k hk => (g1 k (by omega)).1)
  exact ⟨x1.trans y1, x2.trans y2⟩
/-- what a telling of many leaves as it was -/
def tlG (I I1 Ir Ir1 : Nat → Nat → Int32) (J J1 Jr Jr1 : Nat → Nat → Int64) : Prop := (∀ c k, c ≠ 53 → ¬ (67 ≤ c ∧ c ≤ 70) → I1 c k = I c k) ∧ (∀ c, c ≠ 54 → ∀ k, J1 c k = J c k) ∧ (∀ c k, ¬ (c = 86 ∧ k = 40) → ¬ (c = 121 ∧ 9 ≤ k ∧ k < 25) → Ir1 c k = Ir c k) ∧ (∀ c, c ≠ 108 → ∀ k, Jr1 c k = Jr c k)
theorem tlG_0 {I Ir : Nat → Nat → Int32} {J Jr : Nat → Nat → Int64} : tlG I I Ir Ir J J Jr Jr := ⟨fun _ _ _ _ => rfl, fun _ _ _ => rfl, fun _ _ _ _ => rfl, fun _ _ _ => rfl⟩
theorem tlG_f {I I1 Ir Ir1 : Nat → Nat → Int32} {J J1 Jr Jr1 : Nat → Nat → Int64} (h : tlF I I1 Ir Ir1 J J1 Jr Jr1) : tlG I I1 Ir Ir1 J J1 Jr Jr1 := ⟨fun c k h1 _ => h.1 c k (fun e => h1 e.1), h.2.1, fun c k h1 _ => h.2.2.1 c k h1, h.2.2.2⟩
theorem tlG_t {I I1 I2 Ir Ir1 Ir2 : Nat → Nat → Int32} {J J1 J2 Jr Jr1 Jr2 : Nat → Nat → Int64} (h : tlG I I1 Ir Ir1 J J1 Jr Jr1) (g : tlG I1 I2 Ir1 Ir2 J1 J2 Jr1 Jr2) : tlG I I2 Ir Ir2 J J2 Jr Jr2 :=
  ⟨fun c k h1 h2 => (g.1 c k h1 h2).trans (h.1 c k h1 h2), fun c h1 k => (g.2.1 c h1 k).trans (h.2.1 c h1 k), fun c k h1 h2 => (g.2.2.1 c k h1 h2).trans (h.2.2.1 c k h1 h2), fun c h1 k => (g.2.2.2 c h1 k).trans (h.2.2.2 c h1 k)⟩
theorem tlG_m {I Ir : Nat → Nat → Int32} {J Jr : Nat → Nat → Int64} {m : Nat} (hm : m < 4) (p q : Int32) : tlG I (cM I m p q) Ir (rM Ir m p q) J J Jr Jr :=
  ⟨fun c k h1 h2 => cM_n I m p q (by omega), fun _ _ _ => rfl, fun c k h1 h2 => rM_n Ir m p q (by omega), fun _ _ _ => rfl⟩
theorem tlG_c {I Ir : Nat → Nat → Int32} {J Jr : Nat → Nat → Int64} {m : Nat} (hm : m < 4) (t : Int32) : tlG I (uI I 69 m t) Ir (uI Ir 121 (17 + m) t) J J Jr Jr :=
  ⟨fun c k h1 h2 => uI_n _ _ (by omega), fun _ _ _ => rfl, fun c k h1 h2 => uI_n _ _ (by omega), fun _ _ _ => rfl⟩
theorem mv_run {L : Nat} {xs : Nat → Int32} {d : Nat} {I : Nat → Nat → Int32} {J : Nat → Nat → Int64} {R : Nat → Nat → Nat} (hG : aGd R) {n : Int32} {m : Nat} (hn : n.toInt = m) (hm : m < 4) (p q : Int32) : xEv L xs (d + 1) 129 0 [.ref 66, .int n, .int p, .int q] [] (124, I, J, R) none (124, cM I m p q, J, R) := by
  have c1 := pt_k (L := L) (xs := xs) (d := d) (I := I) (J := J) (R := R) (c := 67) (m := 4) (fun _ => rfl) (by decide) hn hm q
  have c2 := pt_k (L := L) (xs := xs) (d := d) (I := uI I 67 m q) (J := J) (R := R) (c := 70) (m := 4) (fun _ => rfl) (by decide) hn hm p
  have c3 := at_k (L := L) (xs := xs) (d := d) (I := uI (uI I 67 m q) 70 m p) (J := J) (R := R) (c := 68) (m := 4) (fun _ => rfl) (by decide) hn hm
  rw [uI_n _ _ (by omega), uI_n _ _ (by omega)] at c3
  have c4 := pt_k (L := L) (xs := xs) (d := d) (I := uI (uI I 67 m q) 70 m p) (J := J) (R := R) (c := 68) (m := 4) (fun _ => rfl) (by decide) hn hm (I 68 m + 1)
  exact uv_m hG c1 c2 c3 c4
/-- the village, the rules and the run of both -/
def gE_3 (np nm nn : Nat) (l : List (Nat × Nat)) (I Ir : Nat → Nat → Int32) (J Jr : Nat → Nat → Int64) : Prop := VR_3 np nm nn l I Ir ∧ (∀ q, q < 16 → 0 ≤ (Ir 95 q).toInt ∧ (Ir 95 q).toInt ≤ 10) ∧ kdR I Ir ∧ gR np nn I Ir J Jr
theorem gE_t_3 {np nm nn : Nat} {l : List (Nat × Nat)} {I I1 Ir Ir1 : Nat → Nat → Int32} {J J1 Jr Jr1 : Nat → Nat → Int64} (h : gE_3 np nm nn l I Ir J Jr) (e : tlG I I1 Ir Ir1 J J1 Jr Jr1) (g : gR np nn I1 Ir1 J1 Jr1) : gE_3 np nm nn l I1 Ir1 J1 Jr1 := by
  obtain ⟨h1, h2, h3, -⟩ := h
  obtain ⟨e1, -, e2, -⟩ := e
  refine ⟨VR_t_3 h1 (fun c q g1 g2 => e1 c q (by omega) (by omega)) (fun c q hc => e2 c q (by omega) (by omega)), fun q hq => ?_, fun i hi => ?_, g⟩
  · rw [e2 95 q (by omega) (by omega)]
    exact h2 q hq
  · rw [e1 64 i (by omega) (by omega), e1 65 i (by omega) (by omega), e2 119 i (by omega) (by omega), e2 120 i (by omega) (by omega)]
    exact h3 i hi
/-- the village, the rules and the run of both -/
def gE_23 (np nm nn : Nat) (l : List (Nat × Nat)) (I Ir : Nat → Nat → Int32) (J Jr : Nat → Nat → Int64) : Prop := VR_23 np nm nn l I Ir ∧ (∀ q, q < 16 → 0 ≤ (Ir 95 q).toInt ∧ (Ir 95 q).toInt ≤ 10) ∧ kdR I Ir ∧ gR np nn I Ir J Jr
theorem gE_t_23 {np nm nn : Nat} {l : List (Nat × Nat)} {I I1 Ir Ir1 : Nat → Nat → Int32} {J J1 Jr Jr1 : Nat → Nat → Int64} (h : gE_23 np nm nn l I Ir J Jr) (e : tlG I I1 Ir Ir1 J J1 Jr Jr1) (g : gR np nn I1 Ir1 J1 Jr1) : gE_23 np nm nn l I1 Ir1 J1 Jr1 := by
  obtain ⟨h1, h2, h3, -⟩ := h
  obtain ⟨e1, -, e2, -⟩ := e
  refine ⟨VR_t_23 h1 (fun c q g1 g2 => e1 c q (by omega) (by omega)) (fun c q hc => e2 c q (by omega) (by omega)), fun q hq => ?_, fun i hi => ?_, g⟩
  · rw [e2 95 q (by omega) (by omega)]
    exact h2 q hq
  · rw [e1 64 i (by omega) (by omega), e1 65 i (by omega) (by omega), e2 119 i (by omega) (by omega), e2 120 i (by omega) (by omega)]
    exact h3 i hi
