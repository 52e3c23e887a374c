/-- what going leaves as it was -/
def goF (I I1 Ir Ir1 : Nat → Nat → Int32) (J J1 Jr Jr1 : Nat → Nat → Int64) : Prop := (∀ c k, c ≠ 53 → ¬ (c = 66 ∧ 5 ≤ k) → ¬ (67 ≤ c ∧ c ≤ 70) → I1 c k = I c k) ∧ (∀ c k, c ≠ 54 → ¬ (c = 66 ∧ k = 7) → J1 c k = J c k) ∧ (∀ c k, ¬ (c = 86 ∧ k = 40) → ¬ (c = 121 ∧ 1 ≤ k ∧ k < 25) → Ir1 c k = Ir c k) ∧ (∀ c k, c ≠ 108 → ¬ (c = 122 ∧ k = 0) → Jr1 c k = Jr c k)
theorem goF_0 {I Ir : Nat → Nat → Int32} {J Jr : Nat → Nat → Int64} : goF I I Ir Ir J J Jr Jr := ⟨fun _ _ _ _ _ => rfl, fun _ _ _ _ => rfl, fun _ _ _ _ => rfl, fun _ _ _ _ => rfl⟩
theorem goF_t {I I1 I2 Ir Ir1 Ir2 : Nat → Nat → Int32} {J J1 J2 Jr Jr1 Jr2 : Nat → Nat → Int64} (h : goF I I1 Ir Ir1 J J1 Jr Jr1) (g : goF I1 I2 Ir1 Ir2 J1 J2 Jr1 Jr2) : goF I I2 Ir Ir2 J J2 Jr Jr2 :=
  ⟨fun c k h1 h2 h3 => (g.1 c k h1 h2 h3).trans (h.1 c k h1 h2 h3), fun c k h1 h2 => (g.2.1 c k h1 h2).trans (h.2.1 c k h1 h2), fun c k h1 h2 => (g.2.2.1 c k h1 h2).trans (h.2.2.1 c k h1 h2), fun c k h1 h2 => (g.2.2.2 c k h1 h2).trans (h.2.2.2 c k h1 h2)⟩
theorem goF_g {I I1 Ir Ir1 : Nat → Nat → Int32} {J J1 Jr Jr1 : Nat → Nat → Int64} (h : tlG I I1 Ir Ir1 J J1 Jr Jr1) : goF I I1 Ir Ir1 J J1 Jr Jr1 :=
  ⟨fun c k h1 _ h3 => h.1 c k h1 h3, fun c k h1 _ => h.2.1 c h1 k, fun c k h1 h2 => h.2.2.1 c k h1 (fun e => h2 ⟨e.1, by omega, e.2.2⟩), fun c k h1 _ => h.2.2.2 c h1 k⟩
theorem goF_l {I Ir : Nat → Nat → Int32} {J Jr : Nat → Nat → Int64} (S : Int64) : goF I I Ir Ir J (uL J 66 7 S) Jr (uL Jr 122 0 S) :=
  ⟨fun _ _ _ _ _ => rfl, fun c k _ h => uL_n _ _ h, fun _ _ _ _ => rfl, fun c k _ h => uL_n _ _ h⟩
theorem goF_n {I Ir : Nat → Nat → Int32} {J Jr : Nat → Nat → Int64} (t u : Int32) : goF I (uI I 66 5 t) Ir (uI Ir 121 1 u) J J Jr Jr :=
  ⟨fun c k _ h _ => uI_n _ _ (fun e => h ⟨e.1, by omega⟩), fun _ _ _ _ => rfl, fun c k _ h => uI_n _ _ (fun e => h ⟨e.1, by omega, by omega⟩), fun _ _ _ _ => rfl⟩
/-- the times are those of the hours -/
def hrS (nm : Nat) (l : List (Nat × Nat)) (Ir : Nat → Nat → Int32) : Prop := l = tOut (fun k => (Ir 94 k).toInt) nm 96 ∧ ∀ k, k < nm → 0 ≤ (Ir 94 k).toInt ∧ (Ir 94 k).toInt ≤ 23
theorem hrS_e {nm : Nat} {l : List (Nat × Nat)} {Ir Ir1 : Nat → Nat → Int32} (h : hrS nm l Ir) (e : ∀ k, Ir1 94 k = Ir 94 k) : hrS nm l Ir1 := by
  have x : Ir1 94 = Ir 94 := funext e
  unfold hrS
  rw [x]
  exact h
theorem gE_u_3 {np nm nn : Nat} {l : List (Nat × Nat)} {I I1 Ir Ir1 : Nat → Nat → Int32} {J J1 Jr Jr1 : Nat → Nat → Int64} (h : gE_3 np nm nn l I Ir J Jr) (e : goF I I1 Ir Ir1 J J1 Jr Jr1) (g : gR np nn I1 Ir1 J1 Jr1) : gE_3 np nm nn l I1 Ir1 J1 Jr1 := by
  obtain ⟨h1, h2, h3, -⟩ := h
  obtain ⟨e1, -, e2, -⟩ := e
  refine ⟨VR_t_3 h1 (fun c q g1 g2 => e1 c q (by omega) (by omega) (by omega)) (fun c q hc => e2 c q (by omega) (by omega)), fun q hq => ?_, fun i hi => ?_, g⟩
  · rw [e2 95 q (by omega) (by omega)]
    exact h2 q hq
  · rw [e1 64 i (by omega) (by omega) (by omega), e1 65 i (by omega) (by omega) (by omega), e2 119 i (by omega) (by omega), e2 120 i (by omega) (by omega)]
    exact h3 i hi
/-- is it the last of the day -/
theorem lst_3 {L : Nat} {xs : Nat → Int32} {d : Nat} {I : Nat → Nat → Int32} {J : Nat → Nat → Int64} {R : Nat → Nat → Nat} {Ir : Nat → Nat → Int32} (hG : aGd R) {np nm nn : Nat} {l : List (Nat × Nat)} (hV : VR_3 np nm nn l I Ir) (hh : hrS nm l Ir) {t : Int32} {tN : Nat} (ht : t.toInt = tN) (tl : tN < l.length) : ∃ z : Int32, xEv L xs d 130 0 [.ref 3, .int t] [] (124, I, J, R) (some (.int z)) (124, I, J, R) ∧ ((z = 1 ∧ (tN + 1 = l.length ∨ (tN + 1 < l.length ∧ (Ir 102 (tN + 1)).toInt / 24 ≠ (Ir 102 tN).toInt / 24))) ∨ (z = 0 ∧ tN + 1 < l.length ∧ (Ir 102 (tN + 1)).toInt / 24 = (Ir 102 tN).toInt / 24)) := by
  obtain ⟨⟨p1, p2, p3⟩, p4, p5, p6, ⟨q1, q2⟩, ⟨q3, q4⟩, ⟨q5, q6⟩, q7, q8, q9, ⟨q10, q11⟩, q12, q13, q14, q15, q16, q17⟩ := hV
  obtain ⟨hl, hf⟩ := hh
  have lk : ∀ i, i < l.length → ∃ a b, l[i]? = some (a, b) := fun i hi => by
    obtain ⟨⟨a, b⟩, hab⟩ : ∃ x, l[i]? = some x := ⟨_, List.getElem?_eq_getElem hi⟩
    exact ⟨a, b, hab⟩
  obtain ⟨a, b, hab⟩ := lk tN tl
  have hab' := hab
  rw [hl] at hab'
  obtain ⟨d1, m0⟩ := tOut_day hf hab'
  have ln : l.length = 4 * nm := by rw [hl]; exact tOut_len hf
  have ra := (q12 tN a b hab).2.1
  have et1 : (t + 1).toInt = (tN + 1 : Nat) := by rw [i_add1 (by omega)]; omega
  have e1 : (I 3 15).toInt > 0 := by omega
  have n1 : I 3 15 ≠ 0 := fun e => by rw [e] at e1; exact absurd e1 (by decide)
  have er : ((t + 1) - (t + 1) / (I 3 15) * (I 3 15)).toInt = ((tN + 1) % nm : Nat) := by
    rw [i_rem (by omega) (by omega), et1, q3]
    rfl
  have nx := nx_day (t := tN) m0
  by_cases g : (tN + 1) % nm = 0
  · refine ⟨1, ul_y_3 hG e1 n1 (by rw [er, g]; rfl), Or.inl ⟨rfl, ?_⟩⟩
    by_cases e : tN + 1 = l.length
    · exact Or.inl e
    · obtain ⟨a', b', hab2⟩ := lk (tN + 1) (by omega)
      have hab3 := hab2
      rw [hl] at hab3
      obtain ⟨d2, -⟩ := tOut_day hf hab3
      have ra' := (q12 (tN + 1) a' b' hab2).2.1
      have := nx.mp g
      rw [← d1, ← d2] at this
      exact Or.inr ⟨by omega, by omega⟩
  · have ge : tN + 1 ≠ l.length := fun e => g (by rw [e, ln, Nat.mul_mod_left])
    obtain ⟨a', b', hab2⟩ := lk (tN + 1) (by omega)
    have hab3 := hab2
    rw [hl] at hab3
    obtain ⟨d2, -⟩ := tOut_day hf hab3
    have ra' := (q12 (tN + 1) a' b' hab2).2.1
    have sm : (tN + 1) / nm = tN / nm := Classical.byContradiction fun e => g (nx.mpr e)
    rw [← d1, ← d2] at sm
    exact ⟨0, ul_n_3 hG e1 n1 (by rw [er]; omega), Or.inr ⟨rfl, by omega, by omega⟩⟩
/-- where one is dead, the class tells nothing -/
theorem teld_3 {L : Nat} {xs : Nat → Int32} {d : Nat} {I : Nat → Nat → Int32} {J : Nat → Nat → Int64} {R : Nat → Nat → Nat} {Ir : Nat → Nat → Int32} (hG : aGd R) {np nm nn : Nat} {l : List (Nat × Nat)} (hV : VR_3 np nm nn l I Ir) {p q had : Int32} {pN qN : Nat} (hp : p.toInt = pN) (pn : pN < np) (hq : q.toInt = qN) (qn : qN < np) (hd : ¬ (tb (I 66 6) pN = true ∧ tb (I 66 6) qN = true)) : xEv L xs (d + 3) 126 0 [.ref 63, .ref 3, .int had, .int p, .int q, xmk] [] (124, I, J, R) none (124, I, J, R) := by
  have hV0 := hV
  obtain ⟨⟨p1, p2, p3⟩, p4, p5, p6, ⟨q1, q2⟩, ⟨q3, q4⟩, ⟨q5, q6⟩, q7, q8, q9, ⟨q10, q11⟩, q12, q13, q14, q15, q16, q17⟩ := hV
  have lp : ∀ (f m : Nat) (i : Int32), m + f = nn → i.toInt = m → xEv L xs (d + 3) 126 3 [.ref 63, .ref 3, .int had, .int p, .int q, .int i] [] (124, I, J, R) none (124, I, J, R) := by
    intro f
    induction f with
    | zero =>
      intro m i hm hi
      exact utl_e_3 hG (by omega)
    | succ f ih =>
      intro m i hm hi
      have x := ih (m + 1) (i + 1) (by omega) (by rw [i_add1 (by omega)]; omega)
      have bm := tb_shr (x := had) hi (by omega)
      cases hb : tb had m with
      | false => exact utl_b_3 hG (by omega) (by rw [bm, hb]; decide) x
      | true =>
        obtain ⟨y, y1, y2⟩ := um_run_3 (L := L) (xs := xs) (d := d) (J := J) hG hV0 hi (by omega) hp pn hq qn
        rcases y2 with ⟨-, y2⟩ | ⟨y0, -⟩
        · exact absurd ⟨y2.2.1, y2.2.2.1⟩ hd
        · exact utl_m_3 hG (by omega) (by rw [bm, hb]; decide) y1 (by rw [y0]; decide) x
  exact utl_s_3 hG (lp nn 0 0 (by omega) (by decide))
theorem gE_u_23 {np nm nn : Nat} {l : List (Nat × Nat)} {I I1 Ir Ir1 : Nat → Nat → Int32} {J J1 Jr Jr1 : Nat → Nat → Int64} (h : gE_23 np nm nn l I Ir J Jr) (e : goF I I1 Ir Ir1 J J1 Jr Jr1) (g : gR np nn I1 Ir1 J1 Jr1) : gE_23 np nm nn l I1 Ir1 J1 Jr1 := by
  obtain ⟨h1, h2, h3, -⟩ := h
  obtain ⟨e1, -, e2, -⟩ := e
  refine ⟨VR_t_23 h1 (fun c q g1 g2 => e1 c q (by omega) (by omega) (by omega)) (fun c q hc => e2 c q (by omega) (by omega)), fun q hq => ?_, fun i hi => ?_, g⟩
  · rw [e2 95 q (by omega) (by omega)]
    exact h2 q hq
  · rw [e1 64 i (by omega) (by omega) (by omega), e1 65 i (by omega) (by omega) (by omega), e2 119 i (by omega) (by omega), e2 120 i (by omega) (by omega)]
    exact h3 i hi
/-- is it the last of the day -/
theorem lst_23 {L : Nat} {xs : Nat → Int32} {d : Nat} {I : Nat → Nat → Int32} {J : Nat → Nat → Int64} {R : Nat → Nat → Nat} {Ir : Nat → Nat → Int32} (hG : aGd R) {np nm nn : Nat} {l : List (Nat × Nat)} (hV : VR_23 np nm nn l I Ir) (hh : hrS nm l Ir) {t : Int32} {tN : Nat} (ht : t.toInt = tN) (tl : tN < l.length) : ∃ z : Int32, xEv L xs d 130 0 [.ref 23, .int t] [] (124, I, J, R) (some (.int z)) (124, I, J, R) ∧ ((z = 1 ∧ (tN + 1 = l.length ∨ (tN + 1 < l.length ∧ (Ir 102 (tN + 1)).toInt / 24 ≠ (Ir 102 tN).toInt / 24))) ∨ (z = 0 ∧ tN + 1 < l.length ∧ (Ir 102 (tN + 1)).toInt / 24 = (Ir 102 tN).toInt / 24)) := by
  obtain ⟨⟨p1, p2, p3⟩, p4, p5, p6, ⟨q1, q2⟩, ⟨q3, q4⟩, ⟨q5, q6⟩, q7, q8, q9, ⟨q10, q11⟩, q12, q13, q14, q15, q16, q17⟩ := hV
  obtain ⟨hl, hf⟩ := hh
  have lk : ∀ i, i < l.length → ∃ a b, l[i]? = some (a, b) := fun i hi => by
    obtain ⟨⟨a, b⟩, hab⟩ : ∃ x, l[i]? = some x := ⟨_, List.getElem?_eq_getElem hi⟩
    exact ⟨a, b, hab⟩
  obtain ⟨a, b, hab⟩ := lk tN tl
  have hab' := hab
  rw [hl] at hab'
  obtain ⟨d1, m0⟩ := tOut_day hf hab'
  have ln : l.length = 4 * nm := by rw [hl]; exact tOut_len hf
  have ra := (q12 tN a b hab).2.1
  have et1 : (t + 1).toInt = (tN + 1 : Nat) := by rw [i_add1 (by omega)]; omega
  have e1 : (I 23 15).toInt > 0 := by omega
  have n1 : I 23 15 ≠ 0 := fun e => by rw [e] at e1; exact absurd e1 (by decide)
  have er : ((t + 1) - (t + 1) / (I 23 15) * (I 23 15)).toInt = ((tN + 1) % nm : Nat) := by
    rw [i_rem (by omega) (by omega), et1, q3]
    rfl
  have nx := nx_day (t := tN) m0
  by_cases g : (tN + 1) % nm = 0
  · refine ⟨1, ul_y_23 hG e1 n1 (by rw [er, g]; rfl), Or.inl ⟨rfl, ?_⟩⟩
    by_cases e : tN + 1 = l.length
    · exact Or.inl e
    · obtain ⟨a', b', hab2⟩ := lk (tN + 1) (by omega)
      have hab3 := hab2
      rw [hl] at hab3
      obtain ⟨d2, -⟩ := tOut_day hf hab3
      have ra' := (q12 (tN + 1) a' b' hab2).2.1
      have := nx.mp g
      rw [← d1, ← d2] at this
      exact Or.inr ⟨by omega, by omega⟩
  · have ge : tN + 1 ≠ l.length := fun e => g (by rw [e, ln, Nat.mul_mod_left])
    obtain ⟨a', b', hab2⟩ := lk (tN + 1) (by omega)
    have hab3 := hab2
    rw [hl] at hab3
    obtain ⟨d2, -⟩ := tOut_day hf hab3
    have ra' := (q12 (tN + 1) a' b' hab2).2.1
    have sm : (tN + 1) / nm = tN / nm := Classical.byContradiction fun e => g (nx.mpr e)
    rw [← d1, ← d2] at sm
    exact ⟨0, ul_n_23 hG e1 n1 (by rw [er]; omega), Or.inr ⟨rfl, by omega, by omega⟩⟩
/-- where one is dead, the class tells nothing -/
theorem teld_23 {L : Nat} {xs : Nat → Int32} {d : Nat} {I : Nat → Nat → Int32} {J : Nat → Nat → Int64} {R : Nat → Nat → Nat} {Ir : Nat → Nat → Int32} (hG : aGd R) {np nm nn : Nat} {l : List (Nat × Nat)} (hV : VR_23 np nm nn l I Ir) {p q had : Int32} {pN qN : Nat} (hp : p.toInt = pN) (pn : pN < np) (hq : q.toInt = qN) (qn : qN < np) (hd : ¬ (tb (I 66 6) pN = true ∧ tb (I 66 6) qN = true)) : xEv L xs (d + 3) 126 0 [.ref 63, .ref 23, .int had, .int p, .int q, xmk] [] (124, I, J, R) none (124, I, J, R) := by
  have hV0 := hV
  obtain ⟨⟨p1, p2, p3⟩, p4, p5, p6, ⟨q1, q2⟩, ⟨q3, q4⟩, ⟨q5, q6⟩, q7, q8, q9, ⟨q10, q11⟩, q12, q13, q14, q15, q16, q17⟩ := hV
  have lp : ∀ (f m : Nat) (i : Int32), m + f = nn → i.toInt = m → xEv L xs (d + 3) 126 3 [.ref 63, .ref 23, .int had, .int p, .int q, .int i] [] (124, I, J, R) none (124, I, J, R) := by
    intro f
    induction f with
    | zero =>
      intro m i hm hi
      exact utl_e_23 hG (by omega)
    | succ f ih =>
      intro m i hm hi
      have x := ih (m + 1) (i + 1) (by omega) (by rw [i_add1 (by omega)]; omega)
      have bm := tb_shr (x := had) hi (by omega)
      cases hb : tb had m with
      | false => exact utl_b_23 hG (by omega) (by rw [bm, hb]; decide) x
      | true =>
        obtain ⟨y, y1, y2⟩ := um_run_23 (L := L) (xs := xs) (d := d) (J := J) hG hV0 hi (by omega) hp pn hq qn
        rcases y2 with ⟨-, y2⟩ | ⟨y0, -⟩
        · exact absurd ⟨y2.2.1, y2.2.2.1⟩ hd
        · exact utl_m_23 hG (by omega) (by rw [bm, hb]; decide) y1 (by rw [y0]; decide) x
  exact utl_s_23 hG (lp nn 0 0 (by omega) (by decide))
