/-- a place of the reference's run, kept out of sight -/
def at9 (x : Int32) (k : Nat) : Prop := 0 ≤ x.toInt ∧ x.toInt < 100 ∧ x.toNatClampNeg = k
theorem at9_i {x i : Int32} {z m : Nat} (hx : x.toInt = z) (hz : z ≤ 21) (hi : i.toInt = m) (hm : m < 40) : at9 (x + i) (z + m) := by
  have h1 : (x + i).toInt = (z + m : Nat) := by rw [i_add (by omega) (by omega)]; omega
  have h2 := clamp_s (i := x + i) (by omega)
  exact ⟨by omega, by omega, by omega⟩
/-- telling, of both, from piece m on -/
theorem tel_3 {L : Nat} {xs : Nat → Int32} {d d' : Nat} {R Rr : Nat → Nat → Nat} (hG : aGd R) (hGr : aGd Rr) {np nm nn : Nat} {l : List (Nat × Nat)} {p q t had : Int32} {pN qN tN : Nat} (hp : p.toInt = pN) (pn : pN < np) (hq : q.toInt = qN) (qn : qN < np) (ht : t.toInt = tN) (tl : tN < l.length) : ∀ (f m : Nat) (i : Int32) (w6 : Value) (I Ir : Nat → Nat → Int32) (J Jr : Nat → Nat → Int64), m + f = nn → i.toInt = m → gE_3 np nm nn l I Ir J Jr → I 66 5 = t → tb (I 66 6) pN = true → tb (I 66 6) qN = true → (∀ k, m ≤ k → k < nn → tb had k = true → I 67 k = p) →
    ∃ (I1 Ir1 : Nat → Nat → Int32) (J1 Jr1 : Nat → Nat → Int64), xEv L xs (d + 5) 126 3 [.ref 63, .ref 3, .int had, .int p, .int q, .int i] [] (124, I, J, R) none (124, I1, J1, R) ∧ xEv L xs (d' + 3) 227 3 [.ref 86, .int p, .int q, .int had, .int t, .int i, w6] [] (124, Ir, Jr, Rr) none (124, Ir1, Jr1, Rr) ∧ gE_3 np nm nn l I1 Ir1 J1 Jr1 ∧ tlG I I1 Ir Ir1 J J1 Jr Jr1 ∧ (∀ k, k < 4 → tb had k = false → I1 67 k = I 67 k) := by
  intro f
  induction f with
  | zero =>
    intro m i w6 I Ir J Jr hm hi hE h5 bp bq hw
    have hV := hE.1
    obtain ⟨⟨p1, p2, p3⟩, p4, p5, p6, ⟨q1, q2⟩, ⟨q3, q4⟩, ⟨q5, q6⟩, q7, q8, q9, ⟨q10, q11⟩, q12, q13, q14, q15, q16, q17⟩ := hV
    exact ⟨I, Ir, J, Jr, utl_e_3 hG (by omega), vt_e hGr (by omega), hE, tlG_0, fun _ _ _ => rfl⟩
  | succ f ih =>
    intro m i w6 I Ir J Jr hm hi hE h5 bp bq hw
    have hE0 := hE
    obtain ⟨hV, hch, hK, hg⟩ := hE
    have hV0 := hV
    obtain ⟨⟨p1, p2, p3⟩, p4, p5, p6, ⟨q1, q2⟩, ⟨q3, q4⟩, ⟨q5, q6⟩, q7, q8, q9, ⟨q10, q11⟩, q12, q13, q14, q15, q16, q17⟩ := hV
    have mn : m < nn := by omega
    obtain ⟨-, e12, -, -, e15, -⟩ := q9 m mn
    obtain ⟨a1, a2, a3, a4⟩ := hg.1 m (by omega)
    have eci := clamp_s (i := i) (by omega)
    have eki : i.toNatClampNeg = m := by omega
    have hi' : (i + 1).toInt = (m + 1 : Nat) := by rw [i_add1 (by omega)]; omega
    have j9 := at9_i (x := 9) (z := 9) (by decide) (by decide) hi (by omega)
    have j13 := at9_i (x := 13) (z := 13) (by decide) (by decide) hi (by omega)
    have j17 := at9_i (x := 17) (z := 17) (by decide) (by decide) hi (by omega)
    have j21 := at9_i (x := 21) (z := 21) (by decide) (by decide) hi (by omega)
    have bm := tb_shr (x := had) hi (by omega)
    -- on with the next piece
    have next : ∀ (w : Value) (I1 Ir1 : Nat → Nat → Int32) (J1 Jr1 : Nat → Nat → Int64), tlG I I1 Ir Ir1 J J1 Jr Jr1 → gR np nn I1 Ir1 J1 Jr1 → (∀ k, k < 4 → k ≠ m ∨ tb had m = false → I1 67 k = I 67 k) → ∃ (I2 Ir2 : Nat → Nat → Int32) (J2 Jr2 : Nat → Nat → Int64), xEv L xs (d + 5) 126 3 [.ref 63, .ref 3, .int had, .int p, .int q, .int (i + 1)] [] (124, I1, J1, R) none (124, I2, J2, R) ∧ xEv L xs (d' + 3) 227 3 [.ref 86, .int p, .int q, .int had, .int t, .int (i + 1), w] [] (124, Ir1, Jr1, Rr) none (124, Ir2, Jr2, Rr) ∧ gE_3 np nm nn l I2 Ir2 J2 Jr2 ∧ tlG I I2 Ir Ir2 J J2 Jr Jr2 ∧ (∀ k, k < 4 → tb had k = false → I2 67 k = I 67 k) := by
      intro w I1 Ir1 J1 Jr1 e g hk
      have e6 : I1 66 6 = I 66 6 := e.1 66 6 (by omega) (by omega)
      obtain ⟨I2, Ir2, J2, Jr2, x1, x2, x3, x4, x5⟩ := ih (m + 1) (i + 1) w I1 Ir1 J1 Jr1 (by omega) hi' (gE_t_3 hE0 e g) ((e.1 66 5 (by omega) (by omega)).trans h5) (by rw [e6]; exact bp) (by rw [e6]; exact bq) (fun k h1 h2 h3 => by rw [hk k (by omega) (Or.inl (by omega))]; exact hw k (by omega) h2 h3)
      refine ⟨I2, Ir2, J2, Jr2, x1, x2, x3, tlG_t e x4, fun k h1 h2 => ?_⟩
      rw [x5 k h1 h2]
      by_cases e : k = m
      · exact hk k h1 (Or.inr (by rw [← e]; exact h2))
      · exact hk k h1 (Or.inl e)
    cases hb : tb had m with
    | false =>
      obtain ⟨I2, Ir2, J2, Jr2, x1, x2, x3⟩ := next (.int 0) I Ir J Jr tlG_0 hg (fun _ _ _ => rfl)
      exact ⟨I2, Ir2, J2, Jr2, utl_b_3 hG (by omega) (by rw [bm, hb]; decide) x1, vt_b hGr (by omega) (by rw [bm, hb]; decide) x2, x3⟩
    | true =>
      have hb1 : ((had >>> (i &&& 31)) &&& 1).toInt = 1 := by rw [bm, hb]; decide
      have hwm : I 67 m = p := hw m (by omega) mn hb
      have hwr : (Ir 121 (9 + i).toNatClampNeg).toInt = p.toInt := by rw [j9.2.2, ← a1, hwm]
      obtain ⟨y, y1, y2⟩ := um_run_3 (L := L) (xs := xs) (d := d + 2) (J := J) hG hV0 hi mn hp pn hq qn
      obtain ⟨nw1, nw2⟩ := gR_now hg p3 (q := q) (by omega)
      obtain ⟨c, c1, c2⟩ := gn_run (L := L) (xs := xs) (d := d' + 2) (I := Ir) (J := Jr) (R := Rr) hGr q6 p3 q
      rw [← nw2] at c2
      have kb := qib_run (L := L) (xs := xs) (d := d' + 2) (I := Ir) (J := Jr) hGr (n := i) (w := q) (by omega) (by omega)
      have bb := tb_shr (x := Ir 100 m) hq (by omega)
      have ecq := clamp_s (i := q) (by omega)
      have ekq : q.toNatClampNeg = qN := by omega
      rw [eki, bb] at kb
      cases hbar : tb (Ir 100 m) qN with
      | true =>
        rcases y2 with ⟨-, y2⟩ | ⟨y0, -⟩
        · rw [y2.2.2.2.1] at hbar
          cases hbar
        rcases kb with ⟨-, kb⟩ | ⟨kz, -⟩
        rotate_left
        · rw [hbar] at kz
          exact absurd kz (by decide)
        subst y0
        obtain ⟨I2, Ir2, J2, Jr2, x1, x2, x3⟩ := next (.int 0) I Ir J Jr tlG_0 hg (fun _ _ _ => rfl)
        exact ⟨I2, Ir2, J2, Jr2, utl_m_3 hG (by omega) hb1 y1 (by decide) x1, vt_r hGr (by omega) hb1 j9.1 j9.2.1 hwr kb (by decide) x2, x3⟩
      | false =>
        rcases kb with ⟨kz, -⟩ | ⟨-, kb⟩
        · rw [hbar] at kz
          exact absurd kz (by decide)
        by_cases hfull : (pcN (I 67) q 4 : Int) < (Ir 90 qN).toInt
        rotate_left
        · rcases y2 with ⟨-, y2⟩ | ⟨y0, -⟩
          · exact absurd y2.2.2.2.2 hfull
          subst y0
          obtain ⟨I2, Ir2, J2, Jr2, x1, x2, x3⟩ := next (.int 0) I Ir J Jr tlG_0 hg (fun _ _ _ => rfl)
          exact ⟨I2, Ir2, J2, Jr2, utl_m_3 hG (by omega) hb1 y1 (by decide) x1, vt_f hGr (by omega) hb1 j9.1 j9.2.1 hwr kb (by decide) c1 (by omega) (by omega) (by rw [ekq]; omega) x2, x3⟩
        by_cases hfor : p = Ir 97 m
        · rcases y2 with ⟨-, y2⟩ | ⟨y0, -⟩
          · exact absurd hfor y2.1
          subst y0
          obtain ⟨I2, Ir2, J2, Jr2, x1, x2, x3⟩ := next (.int 1) I Ir J Jr tlG_0 hg (fun _ _ _ => rfl)
          have z := ur_f (L := L) (xs := xs) (d := d' + 2) (I := Ir) (J := Jr) (n := i) (p := p) (q := q) (t := t) hGr (by omega) (by omega) (by rw [eki, hfor])
          exact ⟨I2, Ir2, J2, Jr2, utl_m_3 hG (by omega) hb1 y1 (by decide) x1, vt_w hGr (by omega) hb1 j9.1 j9.2.1 hwr kb (by decide) c1 (by omega) (by omega) (by rw [ekq]; omega) z (by decide) x2, x3⟩
        have y0 : y = 1 := by
          rcases y2 with ⟨y0, -⟩ | ⟨-, y2⟩
          · exact y0
          · exact absurd ⟨hfor, bp, bq, hbar, hfull⟩ y2
        subst y0
        obtain ⟨w, I1, Ir1, J1, Jr1, w01, w1, w2, w3⟩ := wts_3 (L := L) (xs := xs) (d := d) (d' := d') (J := J) (Jr := Jr) hG hGr hV0 hch hK hi mn hp pn hq qn ht tl h5 a4 hfor
        have g1 : gR np nn I1 Ir1 J1 Jr1 := gR_e hg (fun c k h1 h2 => w3.1 c k (by omega)) (fun k => w3.2.2.1 121 k (by omega)) (w3.2.1 66 (by omega) 7) (w3.2.2.2 122 (by omega) 0)
        have s67 : ∀ k, I1 67 k = I 67 k := fun k => w3.1 67 k (by omega)
        rcases w01 with w0 | w0
        · subst w0
          obtain ⟨I2, Ir2, J2, Jr2, x1, x2, x3⟩ := next (.int 1) I1 Ir1 J1 Jr1 (tlG_f w3) g1 (fun k _ _ => s67 k)
          exact ⟨I2, Ir2, J2, Jr2, utl_w_3 hG (by omega) hb1 y1 (by decide) w1 (by decide) x1, vt_w hGr (by omega) hb1 j9.1 j9.2.1 hwr kb (by decide) c1 (by omega) (by omega) (by rw [ekq]; omega) w2 (by decide) x2, x3⟩
        subst w0
        have mv := mv_run (L := L) (xs := xs) (d := d + 3) (I := I1) (J := J1) (R := R) hG hi (by omega) p q
        have g2 := gR_mv g1 p1 mn p3 p q
        have fr2 := tlG_t (tlG_f w3) (tlG_m (I := I1) (Ir := Ir1) (J := J1) (Jr := Jr1) (m := m) (by omega) p q)
        have c12 := at_k (L := L) (xs := xs) (d := d + 4) (I := cM I1 m p q) (J := J1) (R := R) (c := 12) (m := 4) (fun _ => rfl) (by decide) hi (by omega)
        rw [cM_n I1 m p q (by omega), w3.1 12 m (by omega), e12] at c12
        have r97 : Ir1 97 i.toNatClampNeg = Ir 97 m := by rw [eki]; exact w3.2.2.1 97 m (by omega)
        have eR : (uI (uI (uI Ir1 121 (9 + i).toNatClampNeg q) 121 (13 + i).toNatClampNeg ((uI Ir1 121 (9 + i).toNatClampNeg q) 121 (13 + i).toNatClampNeg + 1)) 121 (21 + i).toNatClampNeg p) = rM Ir1 m p q := by
          unfold rM
          rw [j9.2.2, j13.2.2, j21.2.2, uI_n Ir1 q (by omega : ¬ (121 = 121 ∧ 13 + m = 9 + m))]
        have s67' : ∀ k, k < 4 → k ≠ m ∨ tb had m = false → cM I1 m p q 67 k = I 67 k := fun k _ h => by
          rcases h with h | h
          · rw [cM_n I1 m p q (by omega), s67]
          · rw [hb] at h
            cases h
        by_cases hq97 : q.toInt = (Ir 97 m).toInt
        rotate_left
        · obtain ⟨I2, Ir2, J2, Jr2, x1, x2, x3⟩ := next (.int 1) (cM I1 m p q) (rM Ir1 m p q) J1 Jr1 fr2 g2 s67'
          exact ⟨I2, Ir2, J2, Jr2, utl_t_3 hG (by omega) hb1 y1 (by decide) w1 (by decide) mv c12 hq97 x1, vt_t hGr (by omega) hb1 j9.1 j9.2.1 hwr kb (by decide) c1 (by omega) (by omega) (by rw [ekq]; omega) w2 (by decide) j9.1 j9.2.1 j13.1 j13.2.1 j13.1 j13.2.1 j21.1 j21.2.1 (by omega) (by omega) (by rw [r97]; exact hq97) (by rw [eR]; exact x2), x3⟩
        have c69 := at_k (L := L) (xs := xs) (d := d + 4) (I := cM I1 m p q) (J := J1) (R := R) (c := 69) (m := 4) (fun _ => rfl) (by decide) hi (by omega)
        have e69 : cM I1 m p q 69 m = rM Ir1 m p q 121 (17 + m) := (g2.1 m (by omega)).2.2.1
        have em : (-1 : Int32).toInt = -1 := by decide
        by_cases hc : (cM I1 m p q 69 m).toInt = -1
        · obtain ⟨I2, Ir2, J2, Jr2, x1, x2, x3⟩ := next (.int 1) (uI (cM I1 m p q) 69 m t) (uI (rM Ir1 m p q) 121 (17 + m) t) J1 Jr1 (tlG_t fr2 (tlG_c (by omega) t)) (gR_cm g2 p1 mn p3 t) (fun k h1 h2 => by rw [uI_n _ _ (by omega)]; exact s67' k h1 h2)
          have pt := pt_k (L := L) (xs := xs) (d := d + 4) (I := cM I1 m p q) (J := J1) (R := R) (c := 69) (m := 4) (fun _ => rfl) (by decide) hi (by omega) t
          have e5 : cM I1 m p q 66 5 = t := by rw [cM_n I1 m p q (by omega), w3.1 66 5 (by omega), h5]
          exact ⟨I2, Ir2, J2, Jr2, utl_p_3 hG (by omega) hb1 y1 (by decide) w1 (by decide) mv c12 hq97 c69 hc (by rw [e5]; exact pt) x1, vt_p hGr (by omega) hb1 j9.1 j9.2.1 hwr kb (by decide) c1 (by omega) (by omega) (by rw [ekq]; omega) w2 (by decide) j9.1 j9.2.1 j13.1 j13.2.1 j13.1 j13.2.1 j21.1 j21.2.1 (by omega) (by omega) (by rw [r97]; exact hq97) j17.1 j17.2.1 (by rw [eR, j17.2.2, ← e69]; exact hc) j17.1 j17.2.1 (by rw [eR, j17.2.2]; exact x2), x3⟩
        · obtain ⟨I2, Ir2, J2, Jr2, x1, x2, x3⟩ := next (.int 1) (cM I1 m p q) (rM Ir1 m p q) J1 Jr1 fr2 g2 s67'
          exact ⟨I2, Ir2, J2, Jr2, utl_c_3 hG (by omega) hb1 y1 (by decide) w1 (by decide) mv c12 hq97 c69 hc x1, vt_c hGr (by omega) hb1 j9.1 j9.2.1 hwr kb (by decide) c1 (by omega) (by omega) (by rw [ekq]; omega) w2 (by decide) j9.1 j9.2.1 j13.1 j13.2.1 j13.1 j13.2.1 j21.1 j21.2.1 (by omega) (by omega) (by rw [r97]; exact hq97) j17.1 j17.2.1 (by rw [eR, j17.2.2, ← e69]; exact hc) (by rw [eR]; exact x2), x3⟩
/-- telling, of both, from piece m on -/
theorem tel_23 {L : Nat} {xs : Nat → Int32} {d d' : Nat} {R Rr : Nat → Nat → Nat} (hG : aGd R) (hGr : aGd Rr) {np nm nn : Nat} {l : List (Nat × Nat)} {p q t had : Int32} {pN qN tN : Nat} (hp : p.toInt = pN) (pn : pN < np) (hq : q.toInt = qN) (qn : qN < np) (ht : t.toInt = tN) (tl : tN < l.length) : ∀ (f m : Nat) (i : Int32) (w6 : Value) (I Ir : Nat → Nat → Int32) (J Jr : Nat → Nat → Int64), m + f = nn → i.toInt = m → gE_23 np nm nn l I Ir J Jr → I 66 5 = t → tb (I 66 6) pN = true → tb (I 66 6) qN = true → (∀ k, m ≤ k → k < nn → tb had k = true → I 67 k = p) →
    ∃ (I1 Ir1 : Nat → Nat → Int32) (J1 Jr1 : Nat → Nat → Int64), xEv L xs (d + 5) 126 3 [.ref 63, .ref 23, .int had, .int p, .int q, .int i] [] (124, I, J, R) none (124, I1, J1, R) ∧ xEv L xs (d' + 3) 227 3 [.ref 86, .int p, .int q, .int had, .int t, .int i, w6] [] (124, Ir, Jr, Rr) none (124, Ir1, Jr1, Rr) ∧ gE_23 np nm nn l I1 Ir1 J1 Jr1 ∧ tlG I I1 Ir Ir1 J J1 Jr Jr1 ∧ (∀ k, k < 4 → tb had k = false → I1 67 k = I 67 k) := by
  intro f
  induction f with
  | zero =>
    intro m i w6 I Ir J Jr hm hi hE h5 bp bq hw
    have hV := hE.1
    obtain ⟨⟨p1, p2, p3⟩, p4, p5, p6, ⟨q1, q2⟩, ⟨q3, q4⟩, ⟨q5, q6⟩, q7, q8, q9, ⟨q10, q11⟩, q12, q13, q14, q15, q16, q17⟩ := hV
    exact ⟨I, Ir, J, Jr, utl_e_23 hG (by omega), vt_e hGr (by omega), hE, tlG_0, fun _ _ _ => rfl⟩
  | succ f ih =>
    intro m i w6 I Ir J Jr hm hi hE h5 bp bq hw
    have hE0 := hE
    obtain ⟨hV, hch, hK, hg⟩ := hE
    have hV0 := hV
    obtain ⟨⟨p1, p2, p3⟩, p4, p5, p6, ⟨q1, q2⟩, ⟨q3, q4⟩, ⟨q5, q6⟩, q7, q8, q9, ⟨q10, q11⟩, q12, q13, q14, q15, q16, q17⟩ := hV
    have mn : m < nn := by omega
    obtain ⟨-, e12, -, -, e15, -⟩ := q9 m mn
    obtain ⟨a1, a2, a3, a4⟩ := hg.1 m (by omega)
    have eci := clamp_s (i := i) (by omega)
    have eki : i.toNatClampNeg = m := by omega
    have hi' : (i + 1).toInt = (m + 1 : Nat) := by rw [i_add1 (by omega)]; omega
    have j9 := at9_i (x := 9) (z := 9) (by decide) (by decide) hi (by omega)
    have j13 := at9_i (x := 13) (z := 13) (by decide) (by decide) hi (by omega)
    have j17 := at9_i (x := 17) (z := 17) (by decide) (by decide) hi (by omega)
    have j21 := at9_i (x := 21) (z := 21) (by decide) (by decide) hi (by omega)
    have bm := tb_shr (x := had) hi (by omega)
    -- on with the next piece
    have next : ∀ (w : Value) (I1 Ir1 : Nat → Nat → Int32) (J1 Jr1 : Nat → Nat → Int64), tlG I I1 Ir Ir1 J J1 Jr Jr1 → gR np nn I1 Ir1 J1 Jr1 → (∀ k, k < 4 → k ≠ m ∨ tb had m = false → I1 67 k = I 67 k) → ∃ (I2 Ir2 : Nat → Nat → Int32) (J2 Jr2 : Nat → Nat → Int64), xEv L xs (d + 5) 126 3 [.ref 63, .ref 23, .int had, .int p, .int q, .int (i + 1)] [] (124, I1, J1, R) none (124, I2, J2, R) ∧ xEv L xs (d' + 3) 227 3 [.ref 86, .int p, .int q, .int had, .int t, .int (i + 1), w] [] (124, Ir1, Jr1, Rr) none (124, Ir2, Jr2, Rr) ∧ gE_23 np nm nn l I2 Ir2 J2 Jr2 ∧ tlG I I2 Ir Ir2 J J2 Jr Jr2 ∧ (∀ k, k < 4 → tb had k = false → I2 67 k = I 67 k) := by
      intro w I1 Ir1 J1 Jr1 e g hk
      have e6 : I1 66 6 = I 66 6 := e.1 66 6 (by omega) (by omega)
      obtain ⟨I2, Ir2, J2, Jr2, x1, x2, x3, x4, x5⟩ := ih (m + 1) (i + 1) w I1 Ir1 J1 Jr1 (by omega) hi' (gE_t_23 hE0 e g) ((e.1 66 5 (by omega) (by omega)).trans h5) (by rw [e6]; exact bp) (by rw [e6]; exact bq) (fun k h1 h2 h3 => by rw [hk k (by omega) (Or.inl (by omega))]; exact hw k (by omega) h2 h3)
      refine ⟨I2, Ir2, J2, Jr2, x1, x2, x3, tlG_t e x4, fun k h1 h2 => ?_⟩
      rw [x5 k h1 h2]
      by_cases e : k = m
      · exact hk k h1 (Or.inr (by rw [← e]; exact h2))
      · exact hk k h1 (Or.inl e)
    cases hb : tb had m with
    | false =>
      obtain ⟨I2, Ir2, J2, Jr2, x1, x2, x3⟩ := next (.int 0) I Ir J Jr tlG_0 hg (fun _ _ _ => rfl)
      exact ⟨I2, Ir2, J2, Jr2, utl_b_23 hG (by omega) (by rw [bm, hb]; decide) x1, vt_b hGr (by omega) (by rw [bm, hb]; decide) x2, x3⟩
    | true =>
      have hb1 : ((had >>> (i &&& 31)) &&& 1).toInt = 1 := by rw [bm, hb]; decide
      have hwm : I 67 m = p := hw m (by omega) mn hb
      have hwr : (Ir 121 (9 + i).toNatClampNeg).toInt = p.toInt := by rw [j9.2.2, ← a1, hwm]
      obtain ⟨y, y1, y2⟩ := um_run_23 (L := L) (xs := xs) (d := d + 2) (J := J) hG hV0 hi mn hp pn hq qn
      obtain ⟨nw1, nw2⟩ := gR_now hg p3 (q := q) (by omega)
      obtain ⟨c, c1, c2⟩ := gn_run (L := L) (xs := xs) (d := d' + 2) (I := Ir) (J := Jr) (R := Rr) hGr q6 p3 q
      rw [← nw2] at c2
      have kb := qib_run (L := L) (xs := xs) (d := d' + 2) (I := Ir) (J := Jr) hGr (n := i) (w := q) (by omega) (by omega)
      have bb := tb_shr (x := Ir 100 m) hq (by omega)
      have ecq := clamp_s (i := q) (by omega)
      have ekq : q.toNatClampNeg = qN := by omega
      rw [eki, bb] at kb
      cases hbar : tb (Ir 100 m) qN with
      | true =>
        rcases y2 with ⟨-, y2⟩ | ⟨y0, -⟩
        · rw [y2.2.2.2.1] at hbar
          cases hbar
        rcases kb with ⟨-, kb⟩ | ⟨kz, -⟩
        rotate_left
        · rw [hbar] at kz
          exact absurd kz (by decide)
        subst y0
        obtain ⟨I2, Ir2, J2, Jr2, x1, x2, x3⟩ := next (.int 0) I Ir J Jr tlG_0 hg (fun _ _ _ => rfl)
        exact ⟨I2, Ir2, J2, Jr2, utl_m_23 hG (by omega) hb1 y1 (by decide) x1, vt_r hGr (by omega) hb1 j9.1 j9.2.1 hwr kb (by decide) x2, x3⟩
      | false =>
        rcases kb with ⟨kz, -⟩ | ⟨-, kb⟩
        · rw [hbar] at kz
          exact absurd kz (by decide)
        by_cases hfull : (pcN (I 67) q 4 : Int) < (Ir 90 qN).toInt
        rotate_left
        · rcases y2 with ⟨-, y2⟩ | ⟨y0, -⟩
          · exact absurd y2.2.2.2.2 hfull
          subst y0
          obtain ⟨I2, Ir2, J2, Jr2, x1, x2, x3⟩ := next (.int 0) I Ir J Jr tlG_0 hg (fun _ _ _ => rfl)
          exact ⟨I2, Ir2, J2, Jr2, utl_m_23 hG (by omega) hb1 y1 (by decide) x1, vt_f hGr (by omega) hb1 j9.1 j9.2.1 hwr kb (by decide) c1 (by omega) (by omega) (by rw [ekq]; omega) x2, x3⟩
        by_cases hfor : p = Ir 97 m
        · rcases y2 with ⟨-, y2⟩ | ⟨y0, -⟩
          · exact absurd hfor y2.1
          subst y0
          obtain ⟨I2, Ir2, J2, Jr2, x1, x2, x3⟩ := next (.int 1) I Ir J Jr tlG_0 hg (fun _ _ _ => rfl)
          have z := ur_f (L := L) (xs := xs) (d := d' + 2) (I := Ir) (J := Jr) (n := i) (p := p) (q := q) (t := t) hGr (by omega) (by omega) (by rw [eki, hfor])
          exact ⟨I2, Ir2, J2, Jr2, utl_m_23 hG (by omega) hb1 y1 (by decide) x1, vt_w hGr (by omega) hb1 j9.1 j9.2.1 hwr kb (by decide) c1 (by omega) (by omega) (by rw [ekq]; omega) z (by decide) x2, x3⟩
        have y0 : y = 1 := by
          rcases y2 with ⟨y0, -⟩ | ⟨-, y2⟩
          · exact y0
          · exact absurd ⟨hfor, bp, bq, hbar, hfull⟩ y2
        subst y0
        obtain ⟨w, I1, Ir1, J1, Jr1, w01, w1, w2, w3⟩ := wts_23 (L := L) (xs := xs) (d := d) (d' := d') (J := J) (Jr := Jr) hG hGr hV0 hch hK hi mn hp pn hq qn ht tl h5 a4 hfor
        have g1 : gR np nn I1 Ir1 J1 Jr1 := gR_e hg (fun c k h1 h2 => w3.1 c k (by omega)) (fun k => w3.2.2.1 121 k (by omega)) (w3.2.1 66 (by omega) 7) (w3.2.2.2 122 (by omega) 0)
        have s67 : ∀ k, I1 67 k = I 67 k := fun k => w3.1 67 k (by omega)
        rcases w01 with w0 | w0
        · subst w0
          obtain ⟨I2, Ir2, J2, Jr2, x1, x2, x3⟩ := next (.int 1) I1 Ir1 J1 Jr1 (tlG_f w3) g1 (fun k _ _ => s67 k)
          exact ⟨I2, Ir2, J2, Jr2, utl_w_23 hG (by omega) hb1 y1 (by decide) w1 (by decide) x1, vt_w hGr (by omega) hb1 j9.1 j9.2.1 hwr kb (by decide) c1 (by omega) (by omega) (by rw [ekq]; omega) w2 (by decide) x2, x3⟩
        subst w0
        have mv := mv_run (L := L) (xs := xs) (d := d + 3) (I := I1) (J := J1) (R := R) hG hi (by omega) p q
        have g2 := gR_mv g1 p1 mn p3 p q
        have fr2 := tlG_t (tlG_f w3) (tlG_m (I := I1) (Ir := Ir1) (J := J1) (Jr := Jr1) (m := m) (by omega) p q)
        have c12 := at_k (L := L) (xs := xs) (d := d + 4) (I := cM I1 m p q) (J := J1) (R := R) (c := 32) (m := 4) (fun _ => rfl) (by decide) hi (by omega)
        rw [cM_n I1 m p q (by omega), w3.1 32 m (by omega), e12] at c12
        have r97 : Ir1 97 i.toNatClampNeg = Ir 97 m := by rw [eki]; exact w3.2.2.1 97 m (by omega)
        have eR : (uI (uI (uI Ir1 121 (9 + i).toNatClampNeg q) 121 (13 + i).toNatClampNeg ((uI Ir1 121 (9 + i).toNatClampNeg q) 121 (13 + i).toNatClampNeg + 1)) 121 (21 + i).toNatClampNeg p) = rM Ir1 m p q := by
          unfold rM
          rw [j9.2.2, j13.2.2, j21.2.2, uI_n Ir1 q (by omega : ¬ (121 = 121 ∧ 13 + m = 9 + m))]
        have s67' : ∀ k, k < 4 → k ≠ m ∨ tb had m = false → cM I1 m p q 67 k = I 67 k := fun k _ h => by
          rcases h with h | h
          · rw [cM_n I1 m p q (by omega), s67]
          · rw [hb] at h
            cases h
        by_cases hq97 : q.toInt = (Ir 97 m).toInt
        rotate_left
        · obtain ⟨I2, Ir2, J2, Jr2, x1, x2, x3⟩ := next (.int 1) (cM I1 m p q) (rM Ir1 m p q) J1 Jr1 fr2 g2 s67'
          exact ⟨I2, Ir2, J2, Jr2, utl_t_23 hG (by omega) hb1 y1 (by decide) w1 (by decide) mv c12 hq97 x1, vt_t hGr (by omega) hb1 j9.1 j9.2.1 hwr kb (by decide) c1 (by omega) (by omega) (by rw [ekq]; omega) w2 (by decide) j9.1 j9.2.1 j13.1 j13.2.1 j13.1 j13.2.1 j21.1 j21.2.1 (by omega) (by omega) (by rw [r97]; exact hq97) (by rw [eR]; exact x2), x3⟩
        have c69 := at_k (L := L) (xs := xs) (d := d + 4) (I := cM I1 m p q) (J := J1) (R := R) (c := 69) (m := 4) (fun _ => rfl) (by decide) hi (by omega)
        have e69 : cM I1 m p q 69 m = rM Ir1 m p q 121 (17 + m) := (g2.1 m (by omega)).2.2.1
        have em : (-1 : Int32).toInt = -1 := by decide
        by_cases hc : (cM I1 m p q 69 m).toInt = -1
        · obtain ⟨I2, Ir2, J2, Jr2, x1, x2, x3⟩ := next (.int 1) (uI (cM I1 m p q) 69 m t) (uI (rM Ir1 m p q) 121 (17 + m) t) J1 Jr1 (tlG_t fr2 (tlG_c (by omega) t)) (gR_cm g2 p1 mn p3 t) (fun k h1 h2 => by rw [uI_n _ _ (by omega)]; exact s67' k h1 h2)
          have pt := pt_k (L := L) (xs := xs) (d := d + 4) (I := cM I1 m p q) (J := J1) (R := R) (c := 69) (m := 4) (fun _ => rfl) (by decide) hi (by omega) t
          have e5 : cM I1 m p q 66 5 = t := by rw [cM_n I1 m p q (by omega), w3.1 66 5 (by omega), h5]
          exact ⟨I2, Ir2, J2, Jr2, utl_p_23 hG (by omega) hb1 y1 (by decide) w1 (by decide) mv c12 hq97 c69 hc (by rw [e5]; exact pt) x1, vt_p hGr (by omega) hb1 j9.1 j9.2.1 hwr kb (by decide) c1 (by omega) (by omega) (by rw [ekq]; omega) w2 (by decide) j9.1 j9.2.1 j13.1 j13.2.1 j13.1 j13.2.1 j21.1 j21.2.1 (by omega) (by omega) (by rw [r97]; exact hq97) j17.1 j17.2.1 (by rw [eR, j17.2.2, ← e69]; exact hc) j17.1 j17.2.1 (by rw [eR, j17.2.2]; exact x2), x3⟩
        · obtain ⟨I2, Ir2, J2, Jr2, x1, x2, x3⟩ := next (.int 1) (cM I1 m p q) (rM Ir1 m p q) J1 Jr1 fr2 g2 s67'
          exact ⟨I2, Ir2, J2, Jr2, utl_c_23 hG (by omega) hb1 y1 (by decide) w1 (by decide) mv c12 hq97 c69 hc x1, vt_c hGr (by omega) hb1 j9.1 j9.2.1 hwr kb (by decide) c1 (by omega) (by omega) (by rw [ekq]; omega) w2 (by decide) j9.1 j9.2.1 j13.1 j13.2.1 j13.1 j13.2.1 j21.1 j21.2.1 (by omega) (by omega) (by rw [r97]; exact hq97) j17.1 j17.2.1 (by rw [eR, j17.2.2, ← e69]; exact hc) (by rw [eR]; exact x2), x3⟩
