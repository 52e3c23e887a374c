theorem ib_run {L : Nat} {xs : Nat → Int32} {d : Nat} {I : Nat → Nat → Int32} {J : Nat → Nat → Int64} {R : Nat → Nat → Nat} (hG : aGd R) {n w : Int32} (h0 : 0 ≤ n.toInt) (h1 : n.toInt < 8) : ((((I 100 n.toNatClampNeg) >>> (w &&& 31)) &&& 1 = 1) ∧ xEv L xs d 179 0 [.ref 86, .int n, .int w] [] (124, I, J, R) (some (.int 1)) (124, I, J, R)) ∨ ((((I 100 n.toNatClampNeg) >>> (w &&& 31)) &&& 1 ≠ 1) ∧ xEv L xs d 179 0 [.ref 86, .int n, .int w] [] (124, I, J, R) (some (.int 0)) (124, I, J, R)) := by
  by_cases h : ((I 100 n.toNatClampNeg) >>> (w &&& 31)) &&& 1 = 1
  · exact Or.inl ⟨h, ib_1 hG h0 h1 (by rw [h]; decide)⟩
  · exact Or.inr ⟨h, ib_0 hG h0 h1 (fun z => h (Int32.toInt_inj.mp z))⟩
/-- the pieces as judged, in both -/
def jw_3 (np nn : Nat) (Ic Ir : Nat → Nat → Int32) : Prop := (∀ n, n < nn → Ic 47 n = Ir 106 n ∧ Ic 48 n = Ir 107 n ∧ 0 ≤ (Ir 106 n).toInt ∧ (Ir 106 n).toInt < np) ∧ (∀ q : Nat, q < np → (cIn (fun i => (Ic 47 i).toInt) (q : Int) nn : Int) ≤ (Ic 5 q).toInt)
/-- the rows of a time in two heaps -/
theorem tmr2_3 {np nm nn : Nat} {l : List (Nat × Nat)} {I Ir : Nat → Nat → Int32} (hV : VR_3 np nm nn l I Ir) {t : Nat} (h : t < l.length) : ∃ b, b < nm ∧ (Ir 101 t).toInt = (b : Int) ∧ I 20 t = Ir 92 b ∧ I 21 t = Ir 93 b ∧ I 22 t = Ir 95 b ∧ 0 ≤ (Ir 92 b).toInt ∧ (Ir 92 b).toInt < np ∧ 0 ≤ (Ir 93 b).toInt ∧ (Ir 93 b).toInt < np ∧ (Ir 92 b).toInt ≠ (Ir 93 b).toInt := by
  obtain ⟨⟨p1, p2, p3⟩, p4, p5, p6, ⟨q1, q2⟩, ⟨q3, q4⟩, ⟨q5, q6⟩, q7, q8, q9, ⟨q10, q11⟩, q12, q13, q14, q15, -⟩ := hV
  have hb := (p6 l[t] (List.getElem_mem h)).2
  obtain ⟨-, -, -, w4, w5, w6, w7⟩ := q12 t (l[t]).1 (l[t]).2 (List.getElem?_eq_getElem h)
  obtain ⟨e1, e2, -⟩ := q8 _ hb
  obtain ⟨r1, r2, r3, r4, r5⟩ := q15 _ hb
  rw [e1] at r1 r2 r5
  rw [e2] at r3 r4 r5
  exact ⟨(l[t]).2, hb, w4, w5, w6, w7, r1, r2, r3, r4, r5⟩
theorem jw_u_3 {np nn : Nat} {Ic Ir Ic' Ir' : Nat → Nat → Int32} (h : jw_3 np nn Ic Ir) {n : Nat} (hn : n < nn) {w : Int32} (w0 : 0 ≤ w.toInt) (w1 : w.toInt < np) (hne : (Ic 47 n).toInt ≠ w.toInt) (hlt : (cIn (fun i => (Ic 47 i).toInt) w.toInt nn : Int) < (Ic 5 w.toNatClampNeg).toInt) (e1 : ∀ q, Ic' 47 q = if q = n then w else Ic 47 q) (e2 : ∀ q, Ir' 106 q = if q = n then w else Ir 106 q) (e3 : ∀ q, q ≠ n → Ic' 48 q = Ic 48 q) (e4 : ∀ q, q ≠ n → Ir' 107 q = Ir 107 q) (e5 : Ic' 48 n = Ir' 107 n) (e6 : ∀ q, Ic' 5 q = Ic 5 q) : jw_3 np nn Ic' Ir' := by
  obtain ⟨h1, h2⟩ := h
  refine ⟨fun q hq => ?_, fun q hq => ?_⟩
  · rw [e1, e2]
    by_cases e : q = n
    · subst e
      rw [if_pos rfl, if_pos rfl]
      exact ⟨rfl, e5, w0, w1⟩
    · rw [if_neg e, if_neg e, e3 q e, e4 q e]
      exact h1 q hq
  · rw [e6]
    have hc := cIn_u (f := fun i => (Ic 47 i).toInt) (z := (q : Int)) (y := w.toInt) (k := n) nn hn
    have he : cIn (fun i => (Ic' 47 i).toInt) (q : Int) nn = cIn (fun i => if i = n then w.toInt else (Ic 47 i).toInt) (q : Int) nn := cIn_e nn (fun i _ => by show (Ic' 47 i).toInt = if i = n then w.toInt else (Ic 47 i).toInt; rw [e1]; by_cases e : i = n; rw [if_pos e, if_pos e]; rw [if_neg e, if_neg e])
    rw [he]
    have h3 := h2 q hq
    have ec := clamp_s (i := w) w0
    by_cases g : w.toInt = (q : Int)
    · have g2 : w.toNatClampNeg = q := by omega
      rw [g2, g] at hlt
      rw [if_pos g, if_neg (show ¬ ((fun i => (Ic 47 i).toInt) n = (q : Int)) from fun z => hne (by rw [g]; exact z))] at hc
      omega
    · rw [if_neg g] at hc
      omega
theorem stp_3 {L : Nat} {xs : Nat → Int32} {d d' : Nat} {Ic Ir : Nat → Nat → Int32} {Jc Jr : Nat → Nat → Int64} {R Rr : Nat → Nat → Nat} (hG : aGd R) (hGr : aGd Rr) {np nm nn : Nat} {l : List (Nat × Nat)} (hV : VR_3 np nm nn l Ic Ir) (hW : jw_3 np nn Ic Ir) {m k : Nat} (hE : rwE m Ic Ir) (hk : k < m) (hm : m ≤ 225) {i be : Int32} (hi : i.toInt = k) (hb : be.toInt = if k = 0 then 0 else (Ir 104 (k - 1)).toInt) :
    (((xEv L xs (d + 2) 57 0 [.ref 44, .int i, .ref 3, xmk] [] (124, Ic, Jc, R) (some (.int 0)) (124, Ic, Jc, R)) ∨ (xEv L xs (d + 2) 57 0 [.ref 44, .int i, .ref 3, xmk] [] (124, Ic, Jc, R) (some (.int 1)) (124, Ic, Jc, R) ∧ xEv L xs (d + 2) 58 0 [.ref 44, .ref 3, .int (Ir 104 k), .int (Ir 105 k), xmk, xmk, xmk, xmk] [] (124, Ic, Jc, R) (some (.int 0)) (124, Ic, Jc, R))) ∧ xEv L xs (d' + 3) 175 0 [.ref 86, .int i, .int be, xmk, xmk, xmk] [] (124, Ir, Jr, Rr) (some (.int 0)) (124, Ir, Jr, Rr)) ∨
    (xEv L xs (d + 2) 57 0 [.ref 44, .int i, .ref 3, xmk] [] (124, Ic, Jc, R) (some (.int 1)) (124, Ic, Jc, R) ∧ ∃ Ic' Ir' : Nat → Nat → Int32, xEv L xs (d + 2) 58 0 [.ref 44, .ref 3, .int (Ir 104 k), .int (Ir 105 k), xmk, xmk, xmk, xmk] [] (124, Ic, Jc, R) (some (.int 1)) (124, Ic', Jc, R) ∧ xEv L xs (d' + 3) 175 0 [.ref 86, .int i, .int be, xmk, xmk, xmk] [] (124, Ir, Jr, Rr) (some (.int 1)) (124, Ir', Jr, Rr) ∧ (∀ c q, c ≠ 47 → c ≠ 48 → Ic' c q = Ic c q) ∧ (∀ c q, c ≠ 106 → c ≠ 107 → Ir' c q = Ir c q) ∧ jw_3 np nn Ic' Ir') := by
  have hV0 := hV
  obtain ⟨⟨p1, p2, p3⟩, p4, p5, p6, ⟨q1, q2⟩, ⟨q3, q4⟩, ⟨q5, q6⟩, q7, q8, q9, ⟨q10, q11⟩, q12, q13, q14, q15, q16, q17⟩ := hV
  obtain ⟨e45, e46, t0, t1, n0, n1⟩ := hE k hk
  have eci := clamp_s (i := i) (by omega)
  have eki : i.toNatClampNeg = k := by omega
  have atc : ∀ (c n : Nat), (∀ f : FieldType → Nat → Option xR, xarr (124, Ic, Jc, R) c f = f .int n) → n < 2147483648 → ∀ (x : Int32), 0 ≤ x.toInt → x.toInt < n → ∀ d, xEv L xs d 39 0 [.ref c, .int x] [] (124, Ic, Jc, R) (some (.int (Ic c x.toNatClampNeg))) (124, Ic, Jc, R) := by
    intro c n ho hn x x0 x1 d
    have h4 := at_run (L := L) (xs := xs) (d := d) (h := (124, Ic, Jc, R)) ho hn x
    rw [if_pos ⟨x0, x1⟩] at h4
    exact h4
  have ct := atc 45 225 (fun _ => rfl) (by decide) i (by omega) (by omega) (d + 1)
  rw [eki, e45] at ct
  have itr := it_run (L := L) (xs := xs) (d := d' + 1) (I := Ir) (J := Jr) hGr q11 (Ir 104 k)
  have ier := ie_run (L := L) (xs := xs) (d := d' + 1) (I := Ir) (J := Jr) hGr q6 (Ir 105 k)
  by_cases hl : (Ir 104 k).toInt ≥ l.length
  · refine Or.inl ⟨Or.inl (ti_a_3 hG ct (by omega)), ?_⟩
    rcases itr with ⟨z, -⟩ | ⟨-, z⟩
    · exact absurd z.2 (by omega)
    · exact tr_a hGr (by omega) (by omega) (by omega) (by omega) (by rw [eki]; exact z)
  have xt : xEv L xs (d' + 2) 171 0 [.ref 86, .int (Ir 104 k)] [] (124, Ir, Jr, Rr) (some (.int 1)) (124, Ir, Jr, Rr) := by
    rcases itr with ⟨-, z⟩ | ⟨z, -⟩
    · exact z
    · exact absurd ⟨by omega, by omega⟩ z
  by_cases htm : (Ir 104 k).toInt < be.toInt
  · have k0 : k ≠ 0 := fun z => by rw [if_pos z] at hb; omega
    rw [if_neg k0] at hb
    have ei1 : (i - 1).toInt = k - 1 := by rw [i_sub (by rw [show (1 : Int32).toInt = 1 from by decide]; omega) (by rw [show (1 : Int32).toInt = 1 from by decide]; omega), show (1 : Int32).toInt = 1 from by decide]; omega
    have ec1 := clamp_s (i := i - 1) (by omega)
    have ek1 : (i - 1).toNatClampNeg = k - 1 := by omega
    have ct1 := atc 45 225 (fun _ => rfl) (by decide) (i - 1) (by omega) (by omega) (d + 1)
    rw [ek1, (hE (k - 1) (by omega)).1] at ct1
    refine Or.inl ⟨Or.inl (ti_1_3 hG ct (by omega) (by omega) ct1 (by omega)), ?_⟩
    rcases ier with ⟨-, z⟩ | ⟨-, z⟩
    · exact tr_c hGr (by omega) (by omega) (by omega) (by omega) (by rw [eki]; exact xt) (by rw [eki]; exact z) (by rw [eki]; exact htm)
    · exact tr_b hGr (by omega) (by omega) (by omega) (by omega) (by rw [eki]; exact xt) (by rw [eki]; exact z)
  have xti : xEv L xs (d + 2) 57 0 [.ref 44, .int i, .ref 3, xmk] [] (124, Ic, Jc, R) (some (.int 1)) (124, Ic, Jc, R) := by
    by_cases k0 : k = 0
    · exact ti_0_3 hG ct (by omega) (by omega)
    · rw [if_neg k0] at hb
      have ei1 : (i - 1).toInt = k - 1 := by rw [i_sub (by rw [show (1 : Int32).toInt = 1 from by decide]; omega) (by rw [show (1 : Int32).toInt = 1 from by decide]; omega), show (1 : Int32).toInt = 1 from by decide]; omega
      have ec1 := clamp_s (i := i - 1) (by omega)
      have ek1 : (i - 1).toNatClampNeg = k - 1 := by omega
      have ct1 := atc 45 225 (fun _ => rfl) (by decide) (i - 1) (by omega) (by omega) (d + 1)
      rw [ek1, (hE (k - 1) (by omega)).1] at ct1
      exact ti_2_3 hG ct (by omega) (by omega) ct1 (by omega)
  rcases ier with ⟨zn, xn⟩ | ⟨zn, xn⟩
  rotate_left
  · refine Or.inl ⟨Or.inr ⟨xti, ?_⟩, tr_b hGr (by omega) (by omega) (by omega) (by omega) (by rw [eki]; exact xt) (by rw [eki]; exact xn)⟩
    rcases hn_run_3 (L := L) (xs := xs) (d := d + 1) (I := Ic) (J := Jc) hG q5 (Ir 105 k) with ⟨z, -⟩ | ⟨-, z⟩
    · exact absurd z zn
    · exact te_x_3 hG z
  have xh : xEv L xs (d + 1) 59 0 [.ref 3, .int (Ir 105 k)] [] (124, Ic, Jc, R) (some (.int 1)) (124, Ic, Jc, R) := by
    rcases hn_run_3 (L := L) (xs := xs) (d := d + 1) (I := Ic) (J := Jc) hG q5 (Ir 105 k) with ⟨-, z⟩ | ⟨z, -⟩
    · exact z
    · exact absurd zn z
  have ecn := clamp_s (i := Ir 105 k) n0
  have ect := clamp_s (i := Ir 104 k) t0
  obtain ⟨b, hb', e1, e2, e3, -, g1, g2, g3, g4, g5⟩ := tmr2_3 hV0 (t := (Ir 104 k).toNatClampNeg) (by omega)
  have a1 := atc 20 64 (fun _ => rfl) (by decide) (Ir 104 k) (by omega) (by omega) (d + 1)
  have a2 := atc 21 64 (fun _ => rfl) (by decide) (Ir 104 k) (by omega) (by omega) (d + 1)
  have a3 := atc 47 4 (fun _ => rfl) (by decide) (Ir 105 k) (by omega) (by omega) (d + 1)
  have a4 := atc 15 4 (fun _ => rfl) (by decide) (Ir 105 k) (by omega) (by omega) (d + 1)
  have a7 := atc 16 4 (fun _ => rfl) (by decide) (Ir 105 k) (by omega) (by omega) (d + 1)
  have hnn : (Ir 105 k).toNatClampNeg < nn := by omega
  obtain ⟨w1, w2, w3, w4⟩ := hW.1 _ hnn
  obtain ⟨-, -, -, -, v15, v16⟩ := q9 _ hnn
  rw [e2] at a1
  rw [e3] at a2
  rw [w1] at a3
  rw [v15] at a4
  have ecb := clamp_s (i := Ir 101 (Ir 104 k).toNatClampNeg) (by omega)
  have ekb : (Ir 101 (Ir 104 k).toNatClampNeg).toNatClampNeg = b := by omega
  have o1 := oA (L := L) (xs := xs) (d := d' + 1) (I := Ir) (J := Jr) (t := Ir 104 k) hGr (by omega) (by omega) (by omega) (by omega)
  have o2 := tA (L := L) (xs := xs) (d := d' + 1) (I := Ir) (J := Jr) (t := Ir 104 k) hGr (by omega) (by omega) (by omega) (by omega)
  rw [ekb] at o1 o2
  have hbe : (Ir 104 i.toNatClampNeg).toInt ≥ be.toInt := by rw [eki]; omega
  have inn : ∀ x y : Int32, 0 ≤ x.toInt → x.toInt ≠ y.toInt → True := fun _ _ _ _ => trivial
  by_cases f1 : (Ir 106 (Ir 105 k).toNatClampNeg).toInt = (Ir 92 b).toInt
  · have hm1 := mtb_0 (L := L) (xs := xs) (I := Ir) (J := Jr) (w := Ir 106 (Ir 105 k).toNatClampNeg) hGr o1 f1 o2
    have ecw := clamp_s (i := Ir 93 b) g3
    have hwn : (Ir 93 b).toNatClampNeg < np := by omega
    obtain ⟨v5, -⟩ := q7 _ hwn
    have a6 := atc 5 7 (fun _ => rfl) (by decide) (Ir 93 b) (by omega) (by omega) (d + 1)
    obtain ⟨z1, x5, y5⟩ := hb_run_3 (L := L) (xs := xs) (d := d) (I := Ic) (J := Jc) hG q5 p3 (Ir 93 b)
    obtain ⟨z2, x6, y6⟩ := he_run (L := L) (xs := xs) (d := d' + 2) (I := Ir) (J := Jr) hGr q6 p3 (Ir 93 b)
    have hz : z2.toInt = z1.toInt := by rw [y5, y6]; exact congrArg (fun n : Nat => (n : Int)) (cIn_e nn (fun i hi => by show (Ir 106 i).toInt = (Ic 47 i).toInt; rw [(hW.1 i hi).1]))
    have hw2 := hW.2 _ hwn
    rw [ecw, ← y5, v5] at hw2
    rw [v5] at a6
    have hne1 : (Ir 93 b).toInt ≠ -1 := by omega
    rcases ib_run (L := L) (xs := xs) (d := d' + 2) (I := Ir) (J := Jr) (n := Ir 105 k) (w := Ir 93 b) hGr n0 (by omega) with ⟨hbr, xb⟩ | ⟨hbr, xb⟩
    · exact Or.inl ⟨Or.inr ⟨xti, te_a0_3 hG xh a1 a2 a3 f1 f1 a4 (by rw [hbr]; decide)⟩, tr_e hGr (by omega) (by omega) (by omega) (by omega) (by rw [eki]; exact xt) (by rw [eki]; exact xn) hbe (by rw [eki]; omega) (by rw [eki]; omega) (by rw [eki]; exact hm1) hne1 (by rw [eki]; exact xb)⟩
    have hbr' : (((Ir 100 (Ir 105 k).toNatClampNeg) >>> (Ir 93 b &&& 31)) &&& 1).toInt ≠ 1 := fun z => hbr (Int32.toInt_inj.mp z)
    by_cases hh : z1.toInt < (Ir 90 (Ir 93 b).toNatClampNeg).toInt
    rotate_left
    · exact Or.inl ⟨Or.inr ⟨xti, te_a1_3 hG xh a1 a2 a3 f1 f1 a4 hbr' x5 a6 (by omega)⟩, tr_f hGr (by omega) (by omega) (by omega) (by omega) (by rw [eki]; exact xt) (by rw [eki]; exact xn) hbe (by rw [eki]; omega) (by rw [eki]; omega) (by rw [eki]; exact hm1) hne1 (by rw [eki]; exact xb) x6 (by omega) (by omega) (by omega)⟩
    have pt : ∀ (c : Nat) (I : Nat → Nat → Int32), (∀ f : FieldType → Nat → Option xR, xarr (124, I, Jc, R) c f = f .int 4) → xEv L xs (d + 1) 33 0 [.ref c, .int (Ir 105 k), .int (Ir 93 b)] [] (124, I, Jc, R) none (124, uI I c (Ir 105 k).toNatClampNeg (Ir 93 b), Jc, R) := fun c I ho => put_in (L := L) (xs := xs) (d := d + 1) (I := I) (J := Jc) (R := R) (c := c) (n := 4) ho (by decide) (i := Ir 105 k) (Ir 93 b) (by omega) (by omega)
    have a7' : xEv L xs (d + 1) 39 0 [.ref 16, .int (Ir 105 k)] [] (124, uI Ic 47 (Ir 105 k).toNatClampNeg (Ir 93 b), Jc, R) (some (.int (Ir 103 (Ir 105 k).toNatClampNeg))) (124, uI Ic 47 (Ir 105 k).toNatClampNeg (Ir 93 b), Jc, R) := by
      have h4 := at_run (L := L) (xs := xs) (d := d + 1) (h := (124, uI Ic 47 (Ir 105 k).toNatClampNeg (Ir 93 b), Jc, R)) (c := 16) (n := 4) (fun _ => rfl) (by decide) (Ir 105 k)
      rw [if_pos ⟨n0, by omega⟩] at h4
      rw [← v16]
      exact h4
    have hlt : (cIn (fun i => (Ic 47 i).toInt) (Ir 93 b).toInt nn : Int) < (Ic 5 (Ir 93 b).toNatClampNeg).toInt := by rw [v5, ← y5]; exact hh
    have hdf : (Ic 47 (Ir 105 k).toNatClampNeg).toInt ≠ (Ir 93 b).toInt := by rw [w1]; omega
    refine Or.inr ⟨xti, ?_⟩
    by_cases hd : (Ir 104 k).toInt ≥ (Ir 103 (Ir 105 k).toNatClampNeg).toInt
    · refine ⟨_, _, te_a2_3 hG xh a1 a2 a3 f1 f1 a4 hbr' x5 a6 hh (pt 47 _ (fun _ => rfl)) a7' hd, tr_g hGr (by omega) (by omega) (by omega) (by omega) (by rw [eki]; exact xt) (by rw [eki]; exact xn) hbe (by rw [eki]; omega) (by rw [eki]; omega) (by rw [eki]; exact hm1) hne1 (by rw [eki]; exact xb) x6 (by omega) (by omega) (by omega) (by rw [eki]; omega) (by rw [eki]; omega) (by rw [eki]; omega) (by rw [eki]; omega) (by rw [eki]; exact hd), ?_, ?_, ?_⟩
      · intro c q c1 c2
        exact uI_c _ _ _ c1
      · intro c q c1 c2
        exact uI_c _ _ _ c1
      · rw [eki]
        refine jw_u_3 hW hnn (w := Ir 93 b) g3 g4 hdf hlt (fun q => ?_) (fun q => ?_) (fun q _ => uI_c _ _ _ (by decide)) (fun q _ => uI_c _ _ _ (by decide)) (by rw [uI_c _ _ _ (by decide), uI_c _ _ _ (by decide)]; exact w2) (fun q => uI_c _ _ _ (by decide))
        · by_cases e : q = (Ir 105 k).toNatClampNeg
          · rw [if_pos e, e, uI_s]
          · rw [if_neg e, uI_n _ _ (fun z => e z.2)]
        · by_cases e : q = (Ir 105 k).toNatClampNeg
          · rw [if_pos e, e, uI_s]
          · rw [if_neg e, uI_n _ _ (fun z => e z.2)]
    · refine ⟨_, _, te_a3_3 hG xh a1 a2 a3 f1 f1 a4 hbr' x5 a6 hh (pt 47 _ (fun _ => rfl)) a7' (by omega) (pt 48 _ (fun _ => rfl)), tr_h hGr (by omega) (by omega) (by omega) (by omega) (by rw [eki]; exact xt) (by rw [eki]; exact xn) hbe (by rw [eki]; omega) (by rw [eki]; omega) (by rw [eki]; exact hm1) hne1 (by rw [eki]; exact xb) x6 (by omega) (by omega) (by omega) (by rw [eki]; omega) (by rw [eki]; omega) (by rw [eki]; omega) (by rw [eki]; omega) (by rw [eki]; omega) (by rw [eki]; omega) (by rw [eki]; omega), ?_, ?_, ?_⟩
      · intro c q c1 c2
        rw [uI_c _ _ _ c2, uI_c _ _ _ c1]
      · intro c q c1 c2
        rw [uI_c _ _ _ c2, uI_c _ _ _ c1]
      · rw [eki]
        refine jw_u_3 hW hnn (w := Ir 93 b) g3 g4 hdf hlt (fun q => ?_) (fun q => ?_) (fun q hq => ?_) (fun q hq => ?_) (by rw [uI_s, uI_s]) (fun q => by rw [uI_c _ _ _ (by decide), uI_c _ _ _ (by decide)])
        · rw [uI_c _ _ _ (by decide)]
          by_cases e : q = (Ir 105 k).toNatClampNeg
          · rw [if_pos e, e, uI_s]
          · rw [if_neg e, uI_n _ _ (fun z => e z.2)]
        · rw [uI_c _ _ _ (by decide)]
          by_cases e : q = (Ir 105 k).toNatClampNeg
          · rw [if_pos e, e, uI_s]
          · rw [if_neg e, uI_n _ _ (fun z => e z.2)]
        · rw [uI_n _ _ (fun z => hq z.2), uI_c _ _ _ (by decide)]
        · rw [uI_n _ _ (fun z => hq z.2), uI_c _ _ _ (by decide)]
  · by_cases f2 : (Ir 106 (Ir 105 k).toNatClampNeg).toInt = (Ir 93 b).toInt
    · have hm1 := mtb_1 (L := L) (xs := xs) (I := Ir) (J := Jr) (w := Ir 106 (Ir 105 k).toNatClampNeg) hGr o1 f1 o2 f2 o1
      have ecw := clamp_s (i := Ir 92 b) g1
      have hwn : (Ir 92 b).toNatClampNeg < np := by omega
      obtain ⟨v5, -⟩ := q7 _ hwn
      have a6 := atc 5 7 (fun _ => rfl) (by decide) (Ir 92 b) (by omega) (by omega) (d + 1)
      obtain ⟨z1, x5, y5⟩ := hb_run_3 (L := L) (xs := xs) (d := d) (I := Ic) (J := Jc) hG q5 p3 (Ir 92 b)
      obtain ⟨z2, x6, y6⟩ := he_run (L := L) (xs := xs) (d := d' + 2) (I := Ir) (J := Jr) hGr q6 p3 (Ir 92 b)
      have hz : z2.toInt = z1.toInt := by rw [y5, y6]; exact congrArg (fun n : Nat => (n : Int)) (cIn_e nn (fun i hi => by show (Ir 106 i).toInt = (Ic 47 i).toInt; rw [(hW.1 i hi).1]))
      have hw2 := hW.2 _ hwn
      rw [ecw, ← y5, v5] at hw2
      rw [v5] at a6
      have hne1 : (Ir 92 b).toInt ≠ -1 := by omega
      rcases ib_run (L := L) (xs := xs) (d := d' + 2) (I := Ir) (J := Jr) (n := Ir 105 k) (w := Ir 92 b) hGr n0 (by omega) with ⟨hbr, xb⟩ | ⟨hbr, xb⟩
      · exact Or.inl ⟨Or.inr ⟨xti, te_b0_3 hG xh a1 a2 a3 f1 f2 f1 a4 (by rw [hbr]; decide)⟩, tr_e hGr (by omega) (by omega) (by omega) (by omega) (by rw [eki]; exact xt) (by rw [eki]; exact xn) hbe (by rw [eki]; omega) (by rw [eki]; omega) (by rw [eki]; exact hm1) hne1 (by rw [eki]; exact xb)⟩
      have hbr' : (((Ir 100 (Ir 105 k).toNatClampNeg) >>> (Ir 92 b &&& 31)) &&& 1).toInt ≠ 1 := fun z => hbr (Int32.toInt_inj.mp z)
      by_cases hh : z1.toInt < (Ir 90 (Ir 92 b).toNatClampNeg).toInt
      rotate_left
      · exact Or.inl ⟨Or.inr ⟨xti, te_b1_3 hG xh a1 a2 a3 f1 f2 f1 a4 hbr' x5 a6 (by omega)⟩, tr_f hGr (by omega) (by omega) (by omega) (by omega) (by rw [eki]; exact xt) (by rw [eki]; exact xn) hbe (by rw [eki]; omega) (by rw [eki]; omega) (by rw [eki]; exact hm1) hne1 (by rw [eki]; exact xb) x6 (by omega) (by omega) (by omega)⟩
      have pt : ∀ (c : Nat) (I : Nat → Nat → Int32), (∀ f : FieldType → Nat → Option xR, xarr (124, I, Jc, R) c f = f .int 4) → xEv L xs (d + 1) 33 0 [.ref c, .int (Ir 105 k), .int (Ir 92 b)] [] (124, I, Jc, R) none (124, uI I c (Ir 105 k).toNatClampNeg (Ir 92 b), Jc, R) := fun c I ho => put_in (L := L) (xs := xs) (d := d + 1) (I := I) (J := Jc) (R := R) (c := c) (n := 4) ho (by decide) (i := Ir 105 k) (Ir 92 b) (by omega) (by omega)
      have a7' : xEv L xs (d + 1) 39 0 [.ref 16, .int (Ir 105 k)] [] (124, uI Ic 47 (Ir 105 k).toNatClampNeg (Ir 92 b), Jc, R) (some (.int (Ir 103 (Ir 105 k).toNatClampNeg))) (124, uI Ic 47 (Ir 105 k).toNatClampNeg (Ir 92 b), Jc, R) := by
        have h4 := at_run (L := L) (xs := xs) (d := d + 1) (h := (124, uI Ic 47 (Ir 105 k).toNatClampNeg (Ir 92 b), Jc, R)) (c := 16) (n := 4) (fun _ => rfl) (by decide) (Ir 105 k)
        rw [if_pos ⟨n0, by omega⟩] at h4
        rw [← v16]
        exact h4
      have hlt : (cIn (fun i => (Ic 47 i).toInt) (Ir 92 b).toInt nn : Int) < (Ic 5 (Ir 92 b).toNatClampNeg).toInt := by rw [v5, ← y5]; exact hh
      have hdf : (Ic 47 (Ir 105 k).toNatClampNeg).toInt ≠ (Ir 92 b).toInt := by rw [w1]; omega
      refine Or.inr ⟨xti, ?_⟩
      by_cases hd : (Ir 104 k).toInt ≥ (Ir 103 (Ir 105 k).toNatClampNeg).toInt
      · refine ⟨_, _, te_b2_3 hG xh a1 a2 a3 f1 f2 f1 a4 hbr' x5 a6 hh (pt 47 _ (fun _ => rfl)) a7' hd, tr_g hGr (by omega) (by omega) (by omega) (by omega) (by rw [eki]; exact xt) (by rw [eki]; exact xn) hbe (by rw [eki]; omega) (by rw [eki]; omega) (by rw [eki]; exact hm1) hne1 (by rw [eki]; exact xb) x6 (by omega) (by omega) (by omega) (by rw [eki]; omega) (by rw [eki]; omega) (by rw [eki]; omega) (by rw [eki]; omega) (by rw [eki]; exact hd), ?_, ?_, ?_⟩
        · intro c q c1 c2
          exact uI_c _ _ _ c1
        · intro c q c1 c2
          exact uI_c _ _ _ c1
        · rw [eki]
          refine jw_u_3 hW hnn (w := Ir 92 b) g1 g2 hdf hlt (fun q => ?_) (fun q => ?_) (fun q _ => uI_c _ _ _ (by decide)) (fun q _ => uI_c _ _ _ (by decide)) (by rw [uI_c _ _ _ (by decide), uI_c _ _ _ (by decide)]; exact w2) (fun q => uI_c _ _ _ (by decide))
          · by_cases e : q = (Ir 105 k).toNatClampNeg
            · rw [if_pos e, e, uI_s]
            · rw [if_neg e, uI_n _ _ (fun z => e z.2)]
          · by_cases e : q = (Ir 105 k).toNatClampNeg
            · rw [if_pos e, e, uI_s]
            · rw [if_neg e, uI_n _ _ (fun z => e z.2)]
      · refine ⟨_, _, te_b3_3 hG xh a1 a2 a3 f1 f2 f1 a4 hbr' x5 a6 hh (pt 47 _ (fun _ => rfl)) a7' (by omega) (pt 48 _ (fun _ => rfl)), tr_h hGr (by omega) (by omega) (by omega) (by omega) (by rw [eki]; exact xt) (by rw [eki]; exact xn) hbe (by rw [eki]; omega) (by rw [eki]; omega) (by rw [eki]; exact hm1) hne1 (by rw [eki]; exact xb) x6 (by omega) (by omega) (by omega) (by rw [eki]; omega) (by rw [eki]; omega) (by rw [eki]; omega) (by rw [eki]; omega) (by rw [eki]; omega) (by rw [eki]; omega) (by rw [eki]; omega), ?_, ?_, ?_⟩
        · intro c q c1 c2
          rw [uI_c _ _ _ c2, uI_c _ _ _ c1]
        · intro c q c1 c2
          rw [uI_c _ _ _ c2, uI_c _ _ _ c1]
        · rw [eki]
          refine jw_u_3 hW hnn (w := Ir 92 b) g1 g2 hdf hlt (fun q => ?_) (fun q => ?_) (fun q hq => ?_) (fun q hq => ?_) (by rw [uI_s, uI_s]) (fun q => by rw [uI_c _ _ _ (by decide), uI_c _ _ _ (by decide)])
          · rw [uI_c _ _ _ (by decide)]
            by_cases e : q = (Ir 105 k).toNatClampNeg
            · rw [if_pos e, e, uI_s]
            · rw [if_neg e, uI_n _ _ (fun z => e z.2)]
          · rw [uI_c _ _ _ (by decide)]
            by_cases e : q = (Ir 105 k).toNatClampNeg
            · rw [if_pos e, e, uI_s]
            · rw [if_neg e, uI_n _ _ (fun z => e z.2)]
          · rw [uI_n _ _ (fun z => hq z.2), uI_c _ _ _ (by decide)]
          · rw [uI_n _ _ (fun z => hq z.2), uI_c _ _ _ (by decide)]
    · have hm1 := mtb_2 (L := L) (xs := xs) (I := Ir) (J := Jr) (w := Ir 106 (Ir 105 k).toNatClampNeg) hGr o1 f1 o2 f2
      exact Or.inl ⟨Or.inr ⟨xti, te_y_3 hG xh a1 a2 a3 f1 f2⟩, tr_d hGr (by omega) (by omega) (by omega) (by omega) (by rw [eki]; exact xt) (by rw [eki]; exact xn) hbe (by rw [eki]; omega) (by rw [eki]; omega) (by rw [eki]; exact hm1)⟩
/-- the pieces as judged, in both -/
def jw_23 (np nn : Nat) (Ic Ir : Nat → Nat → Int32) : Prop := (∀ n, n < nn → Ic 47 n = Ir 106 n ∧ Ic 48 n = Ir 107 n ∧ 0 ≤ (Ir 106 n).toInt ∧ (Ir 106 n).toInt < np) ∧ (∀ q : Nat, q < np → (cIn (fun i => (Ic 47 i).toInt) (q : Int) nn : Int) ≤ (Ic 25 q).toInt)
/-- the rows of a time in two heaps -/
theorem tmr2_23 {np nm nn : Nat} {l : List (Nat × Nat)} {I Ir : Nat → Nat → Int32} (hV : VR_23 np nm nn l I Ir) {t : Nat} (h : t < l.length) : ∃ b, b < nm ∧ (Ir 101 t).toInt = (b : Int) ∧ I 40 t = Ir 92 b ∧ I 41 t = Ir 93 b ∧ I 42 t = Ir 95 b ∧ 0 ≤ (Ir 92 b).toInt ∧ (Ir 92 b).toInt < np ∧ 0 ≤ (Ir 93 b).toInt ∧ (Ir 93 b).toInt < np ∧ (Ir 92 b).toInt ≠ (Ir 93 b).toInt := by
  obtain ⟨⟨p1, p2, p3⟩, p4, p5, p6, ⟨q1, q2⟩, ⟨q3, q4⟩, ⟨q5, q6⟩, q7, q8, q9, ⟨q10, q11⟩, q12, q13, q14, q15, -⟩ := hV
  have hb := (p6 l[t] (List.getElem_mem h)).2
  obtain ⟨-, -, -, w4, w5, w6, w7⟩ := q12 t (l[t]).1 (l[t]).2 (List.getElem?_eq_getElem h)
  obtain ⟨e1, e2, -⟩ := q8 _ hb
  obtain ⟨r1, r2, r3, r4, r5⟩ := q15 _ hb
  rw [e1] at r1 r2 r5
  rw [e2] at r3 r4 r5
  exact ⟨(l[t]).2, hb, w4, w5, w6, w7, r1, r2, r3, r4, r5⟩
theorem jw_u_23 {np nn : Nat} {Ic Ir Ic' Ir' : Nat → Nat → Int32} (h : jw_23 np nn Ic Ir) {n : Nat} (hn : n < nn) {w : Int32} (w0 : 0 ≤ w.toInt) (w1 : w.toInt < np) (hne : (Ic 47 n).toInt ≠ w.toInt) (hlt : (cIn (fun i => (Ic 47 i).toInt) w.toInt nn : Int) < (Ic 25 w.toNatClampNeg).toInt) (e1 : ∀ q, Ic' 47 q = if q = n then w else Ic 47 q) (e2 : ∀ q, Ir' 106 q = if q = n then w else Ir 106 q) (e3 : ∀ q, q ≠ n → Ic' 48 q = Ic 48 q) (e4 : ∀ q, q ≠ n → Ir' 107 q = Ir 107 q) (e5 : Ic' 48 n = Ir' 107 n) (e6 : ∀ q, Ic' 25 q = Ic 25 q) : jw_23 np nn Ic' Ir' := by
  obtain ⟨h1, h2⟩ := h
  refine ⟨fun q hq => ?_, fun q hq => ?_⟩
  · rw [e1, e2]
    by_cases e : q = n
    · subst e
      rw [if_pos rfl, if_pos rfl]
      exact ⟨rfl, e5, w0, w1⟩
    · rw [if_neg e, if_neg e, e3 q e, e4 q e]
      exact h1 q hq
  · rw [e6]
    have hc := cIn_u (f := fun i => (Ic 47 i).toInt) (z := (q : Int)) (y := w.toInt) (k := n) nn hn
    have he : cIn (fun i => (Ic' 47 i).toInt) (q : Int) nn = cIn (fun i => if i = n then w.toInt else (Ic 47 i).toInt) (q : Int) nn := cIn_e nn (fun i _ => by show (Ic' 47 i).toInt = if i = n then w.toInt else (Ic 47 i).toInt; rw [e1]; by_cases e : i = n; rw [if_pos e, if_pos e]; rw [if_neg e, if_neg e])
    rw [he]
    have h3 := h2 q hq
    have ec := clamp_s (i := w) w0
    by_cases g : w.toInt = (q : Int)
    · have g2 : w.toNatClampNeg = q := by omega
      rw [g2, g] at hlt
      rw [if_pos g, if_neg (show ¬ ((fun i => (Ic 47 i).toInt) n = (q : Int)) from fun z => hne (by rw [g]; exact z))] at hc
      omega
    · rw [if_neg g] at hc
      omega
theorem stp_23 {L : Nat} {xs : Nat → Int32} {d d' : Nat} {Ic Ir : Nat → Nat → Int32} {Jc Jr : Nat → Nat → Int64} {R Rr : Nat → Nat → Nat} (hG : aGd R) (hGr : aGd Rr) {np nm nn : Nat} {l : List (Nat × Nat)} (hV : VR_23 np nm nn l Ic Ir) (hW : jw_23 np nn Ic Ir) {m k : Nat} (hE : rwE m Ic Ir) (hk : k < m) (hm : m ≤ 225) {i be : Int32} (hi : i.toInt = k) (hb : be.toInt = if k = 0 then 0 else (Ir 104 (k - 1)).toInt) :
    (((xEv L xs (d + 2) 57 0 [.ref 44, .int i, .ref 23, xmk] [] (124, Ic, Jc, R) (some (.int 0)) (124, Ic, Jc, R)) ∨ (xEv L xs (d + 2) 57 0 [.ref 44, .int i, .ref 23, xmk] [] (124, Ic, Jc, R) (some (.int 1)) (124, Ic, Jc, R) ∧ xEv L xs (d + 2) 58 0 [.ref 44, .ref 23, .int (Ir 104 k), .int (Ir 105 k), xmk, xmk, xmk, xmk] [] (124, Ic, Jc, R) (some (.int 0)) (124, Ic, Jc, R))) ∧ xEv L xs (d' + 3) 175 0 [.ref 86, .int i, .int be, xmk, xmk, xmk] [] (124, Ir, Jr, Rr) (some (.int 0)) (124, Ir, Jr, Rr)) ∨
    (xEv L xs (d + 2) 57 0 [.ref 44, .int i, .ref 23, xmk] [] (124, Ic, Jc, R) (some (.int 1)) (124, Ic, Jc, R) ∧ ∃ Ic' Ir' : Nat → Nat → Int32, xEv L xs (d + 2) 58 0 [.ref 44, .ref 23, .int (Ir 104 k), .int (Ir 105 k), xmk, xmk, xmk, xmk] [] (124, Ic, Jc, R) (some (.int 1)) (124, Ic', Jc, R) ∧ xEv L xs (d' + 3) 175 0 [.ref 86, .int i, .int be, xmk, xmk, xmk] [] (124, Ir, Jr, Rr) (some (.int 1)) (124, Ir', Jr, Rr) ∧ (∀ c q, c ≠ 47 → c ≠ 48 → Ic' c q = Ic c q) ∧ (∀ c q, c ≠ 106 → c ≠ 107 → Ir' c q = Ir c q) ∧ jw_23 np nn Ic' Ir') := by
  have hV0 := hV
  obtain ⟨⟨p1, p2, p3⟩, p4, p5, p6, ⟨q1, q2⟩, ⟨q3, q4⟩, ⟨q5, q6⟩, q7, q8, q9, ⟨q10, q11⟩, q12, q13, q14, q15, q16, q17⟩ := hV
  obtain ⟨e45, e46, t0, t1, n0, n1⟩ := hE k hk
  have eci := clamp_s (i := i) (by omega)
  have eki : i.toNatClampNeg = k := by omega
  have atc : ∀ (c n : Nat), (∀ f : FieldType → Nat → Option xR, xarr (124, Ic, Jc, R) c f = f .int n) → n < 2147483648 → ∀ (x : Int32), 0 ≤ x.toInt → x.toInt < n → ∀ d, xEv L xs d 39 0 [.ref c, .int x] [] (124, Ic, Jc, R) (some (.int (Ic c x.toNatClampNeg))) (124, Ic, Jc, R) := by
    intro c n ho hn x x0 x1 d
    have h4 := at_run (L := L) (xs := xs) (d := d) (h := (124, Ic, Jc, R)) ho hn x
    rw [if_pos ⟨x0, x1⟩] at h4
    exact h4
  have ct := atc 45 225 (fun _ => rfl) (by decide) i (by omega) (by omega) (d + 1)
  rw [eki, e45] at ct
  have itr := it_run (L := L) (xs := xs) (d := d' + 1) (I := Ir) (J := Jr) hGr q11 (Ir 104 k)
  have ier := ie_run (L := L) (xs := xs) (d := d' + 1) (I := Ir) (J := Jr) hGr q6 (Ir 105 k)
  by_cases hl : (Ir 104 k).toInt ≥ l.length
  · refine Or.inl ⟨Or.inl (ti_a_23 hG ct (by omega)), ?_⟩
    rcases itr with ⟨z, -⟩ | ⟨-, z⟩
    · exact absurd z.2 (by omega)
    · exact tr_a hGr (by omega) (by omega) (by omega) (by omega) (by rw [eki]; exact z)
  have xt : xEv L xs (d' + 2) 171 0 [.ref 86, .int (Ir 104 k)] [] (124, Ir, Jr, Rr) (some (.int 1)) (124, Ir, Jr, Rr) := by
    rcases itr with ⟨-, z⟩ | ⟨z, -⟩
    · exact z
    · exact absurd ⟨by omega, by omega⟩ z
  by_cases htm : (Ir 104 k).toInt < be.toInt
  · have k0 : k ≠ 0 := fun z => by rw [if_pos z] at hb; omega
    rw [if_neg k0] at hb
    have ei1 : (i - 1).toInt = k - 1 := by rw [i_sub (by rw [show (1 : Int32).toInt = 1 from by decide]; omega) (by rw [show (1 : Int32).toInt = 1 from by decide]; omega), show (1 : Int32).toInt = 1 from by decide]; omega
    have ec1 := clamp_s (i := i - 1) (by omega)
    have ek1 : (i - 1).toNatClampNeg = k - 1 := by omega
    have ct1 := atc 45 225 (fun _ => rfl) (by decide) (i - 1) (by omega) (by omega) (d + 1)
    rw [ek1, (hE (k - 1) (by omega)).1] at ct1
    refine Or.inl ⟨Or.inl (ti_1_23 hG ct (by omega) (by omega) ct1 (by omega)), ?_⟩
    rcases ier with ⟨-, z⟩ | ⟨-, z⟩
    · exact tr_c hGr (by omega) (by omega) (by omega) (by omega) (by rw [eki]; exact xt) (by rw [eki]; exact z) (by rw [eki]; exact htm)
    · exact tr_b hGr (by omega) (by omega) (by omega) (by omega) (by rw [eki]; exact xt) (by rw [eki]; exact z)
  have xti : xEv L xs (d + 2) 57 0 [.ref 44, .int i, .ref 23, xmk] [] (124, Ic, Jc, R) (some (.int 1)) (124, Ic, Jc, R) := by
    by_cases k0 : k = 0
    · exact ti_0_23 hG ct (by omega) (by omega)
    · rw [if_neg k0] at hb
      have ei1 : (i - 1).toInt = k - 1 := by rw [i_sub (by rw [show (1 : Int32).toInt = 1 from by decide]; omega) (by rw [show (1 : Int32).toInt = 1 from by decide]; omega), show (1 : Int32).toInt = 1 from by decide]; omega
      have ec1 := clamp_s (i := i - 1) (by omega)
      have ek1 : (i - 1).toNatClampNeg = k - 1 := by omega
      have ct1 := atc 45 225 (fun _ => rfl) (by decide) (i - 1) (by omega) (by omega) (d + 1)
      rw [ek1, (hE (k - 1) (by omega)).1] at ct1
      exact ti_2_23 hG ct (by omega) (by omega) ct1 (by omega)
  rcases ier with ⟨zn, xn⟩ | ⟨zn, xn⟩
  rotate_left
  · refine Or.inl ⟨Or.inr ⟨xti, ?_⟩, tr_b hGr (by omega) (by omega) (by omega) (by omega) (by rw [eki]; exact xt) (by rw [eki]; exact xn)⟩
    rcases hn_run_23 (L := L) (xs := xs) (d := d + 1) (I := Ic) (J := Jc) hG q5 (Ir 105 k) with ⟨z, -⟩ | ⟨-, z⟩
    · exact absurd z zn
    · exact te_x_23 hG z
  have xh : xEv L xs (d + 1) 59 0 [.ref 23, .int (Ir 105 k)] [] (124, Ic, Jc, R) (some (.int 1)) (124, Ic, Jc, R) := by
    rcases hn_run_23 (L := L) (xs := xs) (d := d + 1) (I := Ic) (J := Jc) hG q5 (Ir 105 k) with ⟨-, z⟩ | ⟨z, -⟩
    · exact z
    · exact absurd zn z
  have ecn := clamp_s (i := Ir 105 k) n0
  have ect := clamp_s (i := Ir 104 k) t0
  obtain ⟨b, hb', e1, e2, e3, -, g1, g2, g3, g4, g5⟩ := tmr2_23 hV0 (t := (Ir 104 k).toNatClampNeg) (by omega)
  have a1 := atc 40 64 (fun _ => rfl) (by decide) (Ir 104 k) (by omega) (by omega) (d + 1)
  have a2 := atc 41 64 (fun _ => rfl) (by decide) (Ir 104 k) (by omega) (by omega) (d + 1)
  have a3 := atc 47 4 (fun _ => rfl) (by decide) (Ir 105 k) (by omega) (by omega) (d + 1)
  have a4 := atc 35 4 (fun _ => rfl) (by decide) (Ir 105 k) (by omega) (by omega) (d + 1)
  have a7 := atc 36 4 (fun _ => rfl) (by decide) (Ir 105 k) (by omega) (by omega) (d + 1)
  have hnn : (Ir 105 k).toNatClampNeg < nn := by omega
  obtain ⟨w1, w2, w3, w4⟩ := hW.1 _ hnn
  obtain ⟨-, -, -, -, v15, v16⟩ := q9 _ hnn
  rw [e2] at a1
  rw [e3] at a2
  rw [w1] at a3
  rw [v15] at a4
  have ecb := clamp_s (i := Ir 101 (Ir 104 k).toNatClampNeg) (by omega)
  have ekb : (Ir 101 (Ir 104 k).toNatClampNeg).toNatClampNeg = b := by omega
  have o1 := oA (L := L) (xs := xs) (d := d' + 1) (I := Ir) (J := Jr) (t := Ir 104 k) hGr (by omega) (by omega) (by omega) (by omega)
  have o2 := tA (L := L) (xs := xs) (d := d' + 1) (I := Ir) (J := Jr) (t := Ir 104 k) hGr (by omega) (by omega) (by omega) (by omega)
  rw [ekb] at o1 o2
  have hbe : (Ir 104 i.toNatClampNeg).toInt ≥ be.toInt := by rw [eki]; omega
  have inn : ∀ x y : Int32, 0 ≤ x.toInt → x.toInt ≠ y.toInt → True := fun _ _ _ _ => trivial
  by_cases f1 : (Ir 106 (Ir 105 k).toNatClampNeg).toInt = (Ir 92 b).toInt
  · have hm1 := mtb_0 (L := L) (xs := xs) (I := Ir) (J := Jr) (w := Ir 106 (Ir 105 k).toNatClampNeg) hGr o1 f1 o2
    have ecw := clamp_s (i := Ir 93 b) g3
    have hwn : (Ir 93 b).toNatClampNeg < np := by omega
    obtain ⟨v5, -⟩ := q7 _ hwn
    have a6 := atc 25 7 (fun _ => rfl) (by decide) (Ir 93 b) (by omega) (by omega) (d + 1)
    obtain ⟨z1, x5, y5⟩ := hb_run_23 (L := L) (xs := xs) (d := d) (I := Ic) (J := Jc) hG q5 p3 (Ir 93 b)
    obtain ⟨z2, x6, y6⟩ := he_run (L := L) (xs := xs) (d := d' + 2) (I := Ir) (J := Jr) hGr q6 p3 (Ir 93 b)
    have hz : z2.toInt = z1.toInt := by rw [y5, y6]; exact congrArg (fun n : Nat => (n : Int)) (cIn_e nn (fun i hi => by show (Ir 106 i).toInt = (Ic 47 i).toInt; rw [(hW.1 i hi).1]))
    have hw2 := hW.2 _ hwn
    rw [ecw, ← y5, v5] at hw2
    rw [v5] at a6
    have hne1 : (Ir 93 b).toInt ≠ -1 := by omega
    rcases ib_run (L := L) (xs := xs) (d := d' + 2) (I := Ir) (J := Jr) (n := Ir 105 k) (w := Ir 93 b) hGr n0 (by omega) with ⟨hbr, xb⟩ | ⟨hbr, xb⟩
    · exact Or.inl ⟨Or.inr ⟨xti, te_a0_23 hG xh a1 a2 a3 f1 f1 a4 (by rw [hbr]; decide)⟩, tr_e hGr (by omega) (by omega) (by omega) (by omega) (by rw [eki]; exact xt) (by rw [eki]; exact xn) hbe (by rw [eki]; omega) (by rw [eki]; omega) (by rw [eki]; exact hm1) hne1 (by rw [eki]; exact xb)⟩
    have hbr' : (((Ir 100 (Ir 105 k).toNatClampNeg) >>> (Ir 93 b &&& 31)) &&& 1).toInt ≠ 1 := fun z => hbr (Int32.toInt_inj.mp z)
    by_cases hh : z1.toInt < (Ir 90 (Ir 93 b).toNatClampNeg).toInt
    rotate_left
    · exact Or.inl ⟨Or.inr ⟨xti, te_a1_23 hG xh a1 a2 a3 f1 f1 a4 hbr' x5 a6 (by omega)⟩, tr_f hGr (by omega) (by omega) (by omega) (by omega) (by rw [eki]; exact xt) (by rw [eki]; exact xn) hbe (by rw [eki]; omega) (by rw [eki]; omega) (by rw [eki]; exact hm1) hne1 (by rw [eki]; exact xb) x6 (by omega) (by omega) (by omega)⟩
    have pt : ∀ (c : Nat) (I : Nat → Nat → Int32), (∀ f : FieldType → Nat → Option xR, xarr (124, I, Jc, R) c f = f .int 4) → xEv L xs (d + 1) 33 0 [.ref c, .int (Ir 105 k), .int (Ir 93 b)] [] (124, I, Jc, R) none (124, uI I c (Ir 105 k).toNatClampNeg (Ir 93 b), Jc, R) := fun c I ho => put_in (L := L) (xs := xs) (d := d + 1) (I := I) (J := Jc) (R := R) (c := c) (n := 4) ho (by decide) (i := Ir 105 k) (Ir 93 b) (by omega) (by omega)
    have a7' : xEv L xs (d + 1) 39 0 [.ref 36, .int (Ir 105 k)] [] (124, uI Ic 47 (Ir 105 k).toNatClampNeg (Ir 93 b), Jc, R) (some (.int (Ir 103 (Ir 105 k).toNatClampNeg))) (124, uI Ic 47 (Ir 105 k).toNatClampNeg (Ir 93 b), Jc, R) := by
      have h4 := at_run (L := L) (xs := xs) (d := d + 1) (h := (124, uI Ic 47 (Ir 105 k).toNatClampNeg (Ir 93 b), Jc, R)) (c := 36) (n := 4) (fun _ => rfl) (by decide) (Ir 105 k)
      rw [if_pos ⟨n0, by omega⟩] at h4
      rw [← v16]
      exact h4
    have hlt : (cIn (fun i => (Ic 47 i).toInt) (Ir 93 b).toInt nn : Int) < (Ic 25 (Ir 93 b).toNatClampNeg).toInt := by rw [v5, ← y5]; exact hh
    have hdf : (Ic 47 (Ir 105 k).toNatClampNeg).toInt ≠ (Ir 93 b).toInt := by rw [w1]; omega
    refine Or.inr ⟨xti, ?_⟩
    by_cases hd : (Ir 104 k).toInt ≥ (Ir 103 (Ir 105 k).toNatClampNeg).toInt
    · refine ⟨_, _, te_a2_23 hG xh a1 a2 a3 f1 f1 a4 hbr' x5 a6 hh (pt 47 _ (fun _ => rfl)) a7' hd, tr_g hGr (by omega) (by omega) (by omega) (by omega) (by rw [eki]; exact xt) (by rw [eki]; exact xn) hbe (by rw [eki]; omega) (by rw [eki]; omega) (by rw [eki]; exact hm1) hne1 (by rw [eki]; exact xb) x6 (by omega) (by omega) (by omega) (by rw [eki]; omega) (by rw [eki]; omega) (by rw [eki]; omega) (by rw [eki]; omega) (by rw [eki]; exact hd), ?_, ?_, ?_⟩
      · intro c q c1 c2
        exact uI_c _ _ _ c1
      · intro c q c1 c2
        exact uI_c _ _ _ c1
      · rw [eki]
        refine jw_u_23 hW hnn (w := Ir 93 b) g3 g4 hdf hlt (fun q => ?_) (fun q => ?_) (fun q _ => uI_c _ _ _ (by decide)) (fun q _ => uI_c _ _ _ (by decide)) (by rw [uI_c _ _ _ (by decide), uI_c _ _ _ (by decide)]; exact w2) (fun q => uI_c _ _ _ (by decide))
        · by_cases e : q = (Ir 105 k).toNatClampNeg
          · rw [if_pos e, e, uI_s]
          · rw [if_neg e, uI_n _ _ (fun z => e z.2)]
        · by_cases e : q = (Ir 105 k).toNatClampNeg
          · rw [if_pos e, e, uI_s]
          · rw [if_neg e, uI_n _ _ (fun z => e z.2)]
    · refine ⟨_, _, te_a3_23 hG xh a1 a2 a3 f1 f1 a4 hbr' x5 a6 hh (pt 47 _ (fun _ => rfl)) a7' (by omega) (pt 48 _ (fun _ => rfl)), tr_h hGr (by omega) (by omega) (by omega) (by omega) (by rw [eki]; exact xt) (by rw [eki]; exact xn) hbe (by rw [eki]; omega) (by rw [eki]; omega) (by rw [eki]; exact hm1) hne1 (by rw [eki]; exact xb) x6 (by omega) (by omega) (by omega) (by rw [eki]; omega) (by rw [eki]; omega) (by rw [eki]; omega) (by rw [eki]; omega) (by rw [eki]; omega) (by rw [eki]; omega) (by rw [eki]; omega), ?_, ?_, ?_⟩
      · intro c q c1 c2
        rw [uI_c _ _ _ c2, uI_c _ _ _ c1]
      · intro c q c1 c2
        rw [uI_c _ _ _ c2, uI_c _ _ _ c1]
      · rw [eki]
        refine jw_u_23 hW hnn (w := Ir 93 b) g3 g4 hdf hlt (fun q => ?_) (fun q => ?_) (fun q hq => ?_) (fun q hq => ?_) (by rw [uI_s, uI_s]) (fun q => by rw [uI_c _ _ _ (by decide), uI_c _ _ _ (by decide)])
        · rw [uI_c _ _ _ (by decide)]
          by_cases e : q = (Ir 105 k).toNatClampNeg
          · rw [if_pos e, e, uI_s]
          · rw [if_neg e, uI_n _ _ (fun z => e z.2)]
        · rw [uI_c _ _ _ (by decide)]
          by_cases e : q = (Ir 105 k).toNatClampNeg
          · rw [if_pos e, e, uI_s]
          · rw [if_neg e, uI_n _ _ (fun z => e z.2)]
        · rw [uI_n _ _ (fun z => hq z.2), uI_c _ _ _ (by decide)]
        · rw [uI_n _ _ (fun z => hq z.2), uI_c _ _ _ (by decide)]
  · by_cases f2 : (Ir 106 (Ir 105 k).toNatClampNeg).toInt = (Ir 93 b).toInt
    · have hm1 := mtb_1 (L := L) (xs := xs) (I := Ir) (J := Jr) (w := Ir 106 (Ir 105 k).toNatClampNeg) hGr o1 f1 o2 f2 o1
      have ecw := clamp_s (i := Ir 92 b) g1
      have hwn : (Ir 92 b).toNatClampNeg < np := by omega
      obtain ⟨v5, -⟩ := q7 _ hwn
      have a6 := atc 25 7 (fun _ => rfl) (by decide) (Ir 92 b) (by omega) (by omega) (d + 1)
      obtain ⟨z1, x5, y5⟩ := hb_run_23 (L := L) (xs := xs) (d := d) (I := Ic) (J := Jc) hG q5 p3 (Ir 92 b)
      obtain ⟨z2, x6, y6⟩ := he_run (L := L) (xs := xs) (d := d' + 2) (I := Ir) (J := Jr) hGr q6 p3 (Ir 92 b)
      have hz : z2.toInt = z1.toInt := by rw [y5, y6]; exact congrArg (fun n : Nat => (n : Int)) (cIn_e nn (fun i hi => by show (Ir 106 i).toInt = (Ic 47 i).toInt; rw [(hW.1 i hi).1]))
      have hw2 := hW.2 _ hwn
      rw [ecw, ← y5, v5] at hw2
      rw [v5] at a6
      have hne1 : (Ir 92 b).toInt ≠ -1 := by omega
      rcases ib_run (L := L) (xs := xs) (d := d' + 2) (I := Ir) (J := Jr) (n := Ir 105 k) (w := Ir 92 b) hGr n0 (by omega) with ⟨hbr, xb⟩ | ⟨hbr, xb⟩
      · exact Or.inl ⟨Or.inr ⟨xti, te_b0_23 hG xh a1 a2 a3 f1 f2 f1 a4 (by rw [hbr]; decide)⟩, tr_e hGr (by omega) (by omega) (by omega) (by omega) (by rw [eki]; exact xt) (by rw [eki]; exact xn) hbe (by rw [eki]; omega) (by rw [eki]; omega) (by rw [eki]; exact hm1) hne1 (by rw [eki]; exact xb)⟩
      have hbr' : (((Ir 100 (Ir 105 k).toNatClampNeg) >>> (Ir 92 b &&& 31)) &&& 1).toInt ≠ 1 := fun z => hbr (Int32.toInt_inj.mp z)
      by_cases hh : z1.toInt < (Ir 90 (Ir 92 b).toNatClampNeg).toInt
      rotate_left
      · exact Or.inl ⟨Or.inr ⟨xti, te_b1_23 hG xh a1 a2 a3 f1 f2 f1 a4 hbr' x5 a6 (by omega)⟩, tr_f hGr (by omega) (by omega) (by omega) (by omega) (by rw [eki]; exact xt) (by rw [eki]; exact xn) hbe (by rw [eki]; omega) (by rw [eki]; omega) (by rw [eki]; exact hm1) hne1 (by rw [eki]; exact xb) x6 (by omega) (by omega) (by omega)⟩
      have pt : ∀ (c : Nat) (I : Nat → Nat → Int32), (∀ f : FieldType → Nat → Option xR, xarr (124, I, Jc, R) c f = f .int 4) → xEv L xs (d + 1) 33 0 [.ref c, .int (Ir 105 k), .int (Ir 92 b)] [] (124, I, Jc, R) none (124, uI I c (Ir 105 k).toNatClampNeg (Ir 92 b), Jc, R) := fun c I ho => put_in (L := L) (xs := xs) (d := d + 1) (I := I) (J := Jc) (R := R) (c := c) (n := 4) ho (by decide) (i := Ir 105 k) (Ir 92 b) (by omega) (by omega)
      have a7' : xEv L xs (d + 1) 39 0 [.ref 36, .int (Ir 105 k)] [] (124, uI Ic 47 (Ir 105 k).toNatClampNeg (Ir 92 b), Jc, R) (some (.int (Ir 103 (Ir 105 k).toNatClampNeg))) (124, uI Ic 47 (Ir 105 k).toNatClampNeg (Ir 92 b), Jc, R) := by
        have h4 := at_run (L := L) (xs := xs) (d := d + 1) (h := (124, uI Ic 47 (Ir 105 k).toNatClampNeg (Ir 92 b), Jc, R)) (c := 36) (n := 4) (fun _ => rfl) (by decide) (Ir 105 k)
        rw [if_pos ⟨n0, by omega⟩] at h4
        rw [← v16]
        exact h4
      have hlt : (cIn (fun i => (Ic 47 i).toInt) (Ir 92 b).toInt nn : Int) < (Ic 25 (Ir 92 b).toNatClampNeg).toInt := by rw [v5, ← y5]; exact hh
      have hdf : (Ic 47 (Ir 105 k).toNatClampNeg).toInt ≠ (Ir 92 b).toInt := by rw [w1]; omega
      refine Or.inr ⟨xti, ?_⟩
      by_cases hd : (Ir 104 k).toInt ≥ (Ir 103 (Ir 105 k).toNatClampNeg).toInt
      · refine ⟨_, _, te_b2_23 hG xh a1 a2 a3 f1 f2 f1 a4 hbr' x5 a6 hh (pt 47 _ (fun _ => rfl)) a7' hd, tr_g hGr (by omega) (by omega) (by omega) (by omega) (by rw [eki]; exact xt) (by rw [eki]; exact xn) hbe (by rw [eki]; omega) (by rw [eki]; omega) (by rw [eki]; exact hm1) hne1 (by rw [eki]; exact xb) x6 (by omega) (by omega) (by omega) (by rw [eki]; omega) (by rw [eki]; omega) (by rw [eki]; omega) (by rw [eki]; omega) (by rw [eki]; exact hd), ?_, ?_, ?_⟩
        · intro c q c1 c2
          exact uI_c _ _ _ c1
        · intro c q c1 c2
          exact uI_c _ _ _ c1
        · rw [eki]
          refine jw_u_23 hW hnn (w := Ir 92 b) g1 g2 hdf hlt (fun q => ?_) (fun q => ?_) (fun q _ => uI_c _ _ _ (by decide)) (fun q _ => uI_c _ _ _ (by decide)) (by rw [uI_c _ _ _ (by decide), uI_c _ _ _ (by decide)]; exact w2) (fun q => uI_c _ _ _ (by decide))
          · by_cases e : q = (Ir 105 k).toNatClampNeg
            · rw [if_pos e, e, uI_s]
            · rw [if_neg e, uI_n _ _ (fun z => e z.2)]
          · by_cases e : q = (Ir 105 k).toNatClampNeg
            · rw [if_pos e, e, uI_s]
            · rw [if_neg e, uI_n _ _ (fun z => e z.2)]
      · refine ⟨_, _, te_b3_23 hG xh a1 a2 a3 f1 f2 f1 a4 hbr' x5 a6 hh (pt 47 _ (fun _ => rfl)) a7' (by omega) (pt 48 _ (fun _ => rfl)), tr_h hGr (by omega) (by omega) (by omega) (by omega) (by rw [eki]; exact xt) (by rw [eki]; exact xn) hbe (by rw [eki]; omega) (by rw [eki]; omega) (by rw [eki]; exact hm1) hne1 (by rw [eki]; exact xb) x6 (by omega) (by omega) (by omega) (by rw [eki]; omega) (by rw [eki]; omega) (by rw [eki]; omega) (by rw [eki]; omega) (by rw [eki]; omega) (by rw [eki]; omega) (by rw [eki]; omega), ?_, ?_, ?_⟩
        · intro c q c1 c2
          rw [uI_c _ _ _ c2, uI_c _ _ _ c1]
        · intro c q c1 c2
          rw [uI_c _ _ _ c2, uI_c _ _ _ c1]
        · rw [eki]
          refine jw_u_23 hW hnn (w := Ir 92 b) g1 g2 hdf hlt (fun q => ?_) (fun q => ?_) (fun q hq => ?_) (fun q hq => ?_) (by rw [uI_s, uI_s]) (fun q => by rw [uI_c _ _ _ (by decide), uI_c _ _ _ (by decide)])
          · rw [uI_c _ _ _ (by decide)]
            by_cases e : q = (Ir 105 k).toNatClampNeg
            · rw [if_pos e, e, uI_s]
            · rw [if_neg e, uI_n _ _ (fun z => e z.2)]
          · rw [uI_c _ _ _ (by decide)]
            by_cases e : q = (Ir 105 k).toNatClampNeg
            · rw [if_pos e, e, uI_s]
            · rw [if_neg e, uI_n _ _ (fun z => e z.2)]
          · rw [uI_n _ _ (fun z => hq z.2), uI_c _ _ _ (by decide)]
          · rw [uI_n _ _ (fun z => hq z.2), uI_c _ _ _ (by decide)]
    · have hm1 := mtb_2 (L := L) (xs := xs) (I := Ir) (J := Jr) (w := Ir 106 (Ir 105 k).toNatClampNeg) hGr o1 f1 o2 f2
      exact Or.inl ⟨Or.inr ⟨xti, te_y_23 hG xh a1 a2 a3 f1 f2⟩, tr_d hGr (by omega) (by omega) (by omega) (by omega) (by rw [eki]; exact xt) (by rw [eki]; exact xn) hbe (by rw [eki]; omega) (by rw [eki]; omega) (by rw [eki]; exact hm1)⟩
