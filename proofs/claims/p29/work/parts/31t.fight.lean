theorem rwsf {L : Nat} {xs : Nat → Int32} {d d' : Nat} {R Rr : Nat → Nat → Nat} {b : Nat → Int32} {n : Nat} (hG : aGd R) (hGr : aGd Rr) (h4 : 4 ≤ d' + 1) (hn9 : n ≤ 900) {mo : Int32} (hmo : mo.toInt = 1) {Ic Ir : Nat → Nat → Int32} {Jc Jr : Nat → Nat → Int64} (hn : (Ic 1 1).toInt = n) (hm : (Ir 86 1).toInt = n) (hb : bX Ic n = b) (hb' : bM Ir n = b) :
    ∃ (rc rr : Int32) (Ic' Ir' : Nat → Nat → Int32) (Jc' Jr' : Nat → Nat → Int64), xEv L xs (d + 3) 54 0 [.ref 44, .ref 1, xmk, xmk, xmk] [] (124, Ic, Jc, R) (some (.int rc)) (124, Ic', Jc', R) ∧ xEv L xs (d' + 5) 173 0 [.ref 86, .int mo, xmk] [] (124, Ir, Jr, Rr) (some (.int rr)) (124, Ir', Jr', Rr) ∧ rwC Ic Ic' ∧ (∀ c q, ¬ (c = 86 ∧ (1 ≤ q ∧ q ≤ 7)) → ¬ (c = 86 ∧ (q = 10 ∨ q = 11 ∨ q = 30 ∨ q = 33 ∨ q = 34)) → c ≠ 104 → c ≠ 105 → Ir' c q = Ir c q) ∧ rwO rc rr Ic' Ir' := by
  obtain ⟨st, k, e, Ic1, Jc1, x1, x2, x3, x4, x5, x6, x7, x8, x9, x10⟩ := ad_run (L := L) (xs := xs) (d := d) (R := R) hG hn9 (I := uI (uI Ic 44 4 0) 1 2 0) (J := Jc) (n := n) (p := 0) (by rw [uI_n _ _ (by omega), uI_n _ _ (by omega)]; exact hn) (by rw [uI_s]; decide) (by omega)
  have hb1 : bX (uI (uI Ic 44 4 0) 1 2 0) n = b := by
    rw [← hb]
    funext q
    unfold bX
    rw [uI_n _ _ (by omega), uI_n _ _ (by omega)]
  rw [hb1] at x2 x9
  obtain ⟨st', k', e', Ir1, Jr1, y1, y2, y3, y4⟩ := sk_run (L := L) (xs := xs) (d := d' + 0) (R := Rr) (b := b) (n := n) (I := uI (uI (uI (uI (uI Ir 86 33 (Ir 86 8)) 86 34 (Ir 86 9)) 86 2 (Ir 86 1)) 86 1 0) 86 6 0) (J := Jr) hGr (by omega) hn9 (p := 0) (by rw [uI_n _ _ (by omega), uI_n _ _ (by omega), uI_s]; exact hm) (by rw [uI_s]; decide) (by omega) (by
    rw [← hb']
    funext q
    unfold bM
    rw [uI_n _ _ (by omega), uI_n _ _ (by omega), uI_n _ _ (by omega), uI_n _ _ (by omega), uI_n _ _ (by omega)])
  obtain ⟨v1, v2, v3⟩ := isTok_u x2 y2
  subst v1
  subst v2
  subst v3
  have ct : cTok b n Ic1 Jc1 st k e := by
    refine ⟨by rw [x10.1 1 1 (by omega), uI_n _ _ (by omega), uI_n _ _ (by omega)]; exact hn, x6, x7, x8, x9, ?_, x4, x5⟩
    rw [← hb1]
    funext q
    unfold bX
    rw [x10.1 2 q (by omega)]
  obtain ⟨rc, rr, Ic', Ir', Jc', Jr', p1, p2, p3, p4, p5, p6⟩ := rwf (L := L) (xs := xs) (d := d) (d' := d') (R := R) (Rr := Rr) hG hGr h4 hn9 hmo 225 0 0 st k e 0 xmk xmk Ic1 (uI Ir1 86 30 0) Jc1 Jr1 (by omega) (by decide) (by omega) x2 ct (rTok_e y3 (fun c q h => uI_n _ _ (by omega))) (by rw [x10.1 44 4 (by omega), uI_n _ _ (by omega), uI_s]; decide) (by rw [uI_s]; decide) (fun q hq => absurd hq (by omega)) (fun q hq => absurd hq (by omega))
  have q33 : Ir' 86 33 = Ir 86 8 := by rw [p4 86 33 (by omega) (by omega) (by omega) (by omega), uI_n _ _ (by omega), y4.1 86 33 (by omega), uI_n _ _ (by omega), uI_n _ _ (by omega), uI_n _ _ (by omega), uI_n _ _ (by omega), uI_s]
  have q34 : Ir' 86 34 = Ir 86 9 := by rw [p4 86 34 (by omega) (by omega) (by omega) (by omega), uI_n _ _ (by omega), y4.1 86 34 (by omega), uI_n _ _ (by omega), uI_n _ _ (by omega), uI_n _ _ (by omega), uI_s]
  refine ⟨rc, rr, Ic', _, Jc', Jr', rd_s hG (rs_s hG x1) p1, ar_0 hGr (rq_s hGr (tt_s hGr y1) p2) hGr (by rcases p6 with ⟨-, h⟩ | ⟨-, h, -⟩ | ⟨-, h, -⟩; exact Or.inl h; exact Or.inr h; exact Or.inl h), ?_, ?_, ?_⟩
  · intro c q a1 a2 a3 a4
    rw [p3 c q a1 a2 a3 a4, x10.1 c q a1, uI_n _ _ (by omega), uI_n _ _ (by omega)]
  · intro c q a1 a2 a3 a4
    by_cases h9 : c = 86 ∧ q = 9
    · obtain ⟨rfl, rfl⟩ := h9
      rw [uI_s]
      exact q34
    rw [uI_n _ _ (by omega)]
    by_cases h8 : c = 86 ∧ q = 8
    · obtain ⟨rfl, rfl⟩ := h8
      rw [uI_s]
      exact q33
    rw [uI_n _ _ (by omega), p4 c q (by omega) (by omega) a3 a4, uI_n _ _ (by omega), y4.1 c q (by omega), uI_n _ _ (by omega), uI_n _ _ (by omega), uI_n _ _ (by omega), uI_n _ _ (by omega), uI_n _ _ (by omega)]
  · rcases p6 with h | ⟨h, h2, m, m1, m2, m3, m4, m5⟩ | h
    · exact Or.inl h
    · refine Or.inr (Or.inl ⟨h, h2, m, m1, m2, by rw [uI_n _ _ (by omega), uI_n _ _ (by omega)]; exact m3, fun q hq => ?_, fun q hq => ?_⟩)
      · rw [uI_n _ _ (by omega), uI_n _ _ (by omega), uI_n _ _ (by omega), uI_n _ _ (by omega)]
        exact m4 q hq
      · rw [uI_n _ _ (by omega), uI_n _ _ (by omega)]
        exact m5 q hq
    · exact Or.inr (Or.inr h)
theorem flp_3 {L : Nat} {xs : Nat → Int32} {d d' : Nat} {Jc Jr : Nat → Nat → Int64} {R Rr : Nat → Nat → Nat} (hG : aGd R) (hGr : aGd Rr) {np nm nn : Nat} {l : List (Nat × Nat)} {m : Nat} (hm : m ≤ 225) {a : Int32} : ∀ (f k : Nat) (i be o w : Int32) (w7 w8 : Value) (Ic Ir : Nat → Nat → Int32), k + f = m → i.toInt = k → (be.toInt = if k = 0 then 0 else (Ir 104 (k - 1)).toInt) → VR_3 np nm nn l Ic Ir → rwE m Ic Ir → (∀ q, q < m → (Ir 105 q).toInt < 2) → (Ic 44 4).toInt = m → (Ir 86 30).toInt = m → Ic 50 0 = o → Ic 50 1 = w → Ic 51 0 = Ir 118 0 → Ic 51 1 = Ir 118 1 →
    ∃ (r1 r2 : Int32) (Ic' Ir' : Nat → Nat → Int32), xEv L xs (d + 2) 116 33 [.ref 49, .ref 3, .ref 44, .int a, .int i] [] (124, Ic, Jc, R) (some (.int r1)) (124, Ic', Jc, R) ∧ xEv L xs (d' + 3) 219 53 [.ref 86, .int a, .int 1, .int o, .int w, .int be, .int i, w7, w8] [] (124, Ir, Jr, Rr) (some (.int r2)) (124, Ir', Jr, Rr) ∧ ((Ic' 49 3 = 1 ∧ Ir' 86 51 = 1 ∧ Ic' 52 0 = Ir' 117 0 ∧ Ic' 52 1 = Ir' 117 1) ∨ ((∀ c q, c ≠ 50 → c ≠ 51 → Ic' c q = Ic c q) ∧ (∀ c q, c ≠ 118 → Ir' c q = Ir c q))) := by
  intro f
  induction f with
  | zero =>
    intro k i be o w w7 w8 Ic Ir hk hi hb hV hE hN s1 s2 f1 f2 f3 f4
    exact ⟨_, _, _, _, fd_e_3 hG (by omega), fm_e hGr (by omega), Or.inl ⟨rfl, rfl, f3, f4⟩⟩
  | succ f ih =>
    intro k i be o w w7 w8 Ic Ir hk hi hb hV hE hN s1 s2 f1 f2 f3 f4
    have hV0 := hV
    obtain ⟨⟨p1, p2, p3⟩, p4, p5, p6, ⟨q1, q2⟩, ⟨q3, q4⟩, ⟨q5, q6⟩, q7, q8, q9, ⟨q10, q11⟩, -⟩ := hV
    obtain ⟨e45, e46, t0, t1, n0, n1⟩ := hE k (by omega)
    have n2 := hN k (by omega)
    have eci := clamp_s (i := i) (by omega)
    have eki : i.toNatClampNeg = k := by omega
    have hi' : (i + 1).toInt = (k + 1 : Nat) := by rw [i_add1 (by omega)]; omega
    have atc : ∀ (c n : Nat), (∀ f : FieldType → Nat → Option xR, xarr (124, Ic, Jc, R) c f = f .int n) → n < 2147483648 → ∀ (x : Int32), 0 ≤ x.toInt → x.toInt < n → ∀ d, xEv L xs d 39 0 [.ref c, .int x] [] (124, Ic, Jc, R) (some (.int (Ic c x.toNatClampNeg))) (124, Ic, Jc, R) := by
      intro c n ho hn x x0 x1 d
      have h4 := at_run (L := L) (xs := xs) (d := d) (h := (124, Ic, Jc, R)) ho hn x
      rw [if_pos ⟨x0, x1⟩] at h4
      exact h4
    have ct := atc 45 225 (fun _ => rfl) (by decide) i (by omega) (by omega) d
    have at1 := atc 45 225 (fun _ => rfl) (by decide) i (by omega) (by omega) (d + 1)
    have at2 := atc 46 225 (fun _ => rfl) (by decide) i (by omega) (by omega) (d + 1)
    rw [eki, e45] at ct at1
    rw [eki, e46] at at2
    have same : ((∀ c q, c ≠ 50 → c ≠ 51 → Ic c q = Ic c q) ∧ (∀ c q, c ≠ 118 → Ir c q = Ir c q)) := ⟨fun _ _ _ _ => rfl, fun _ _ _ => rfl⟩
    have itr := it_run (L := L) (xs := xs) (d := d' + 1) (I := Ir) (J := Jr) hGr q11 (Ir 104 k)
    by_cases hl : (Ir 104 k).toInt ≥ l.length
    · rcases itr with ⟨z, -⟩ | ⟨-, z⟩
      · exact absurd z.2 (by omega)
      · exact ⟨_, _, Ic, Ir, fd_t_3 hG (by omega) (ti_a_3 hG ct (by omega)), fm_t hGr (by omega) (by omega) (by omega) (by rw [eki]; exact z), Or.inr same⟩
    have xt : xEv L xs (d' + 2) 171 0 [.ref 86, .int (Ir 104 k)] [] (124, Ir, Jr, Rr) (some (.int 1)) (124, Ir, Jr, Rr) := by
      rcases itr with ⟨-, z⟩ | ⟨z, -⟩
      · exact z
      · exact absurd ⟨by omega, by omega⟩ z
    by_cases htm : (Ir 104 k).toInt < be.toInt
    · have k0 : k ≠ 0 := fun z => by rw [if_pos z] at hb; omega
      rw [if_neg k0] at hb
      have ei1 : (i - 1).toInt = k - 1 := by rw [i_sub (by rw [show (1 : Int32).toInt = 1 from by decide]; omega) (by rw [show (1 : Int32).toInt = 1 from by decide]; omega), show (1 : Int32).toInt = 1 from by decide]; omega
      have ec1 := clamp_s (i := i - 1) (by omega)
      have ek1 : (i - 1).toNatClampNeg = k - 1 := by omega
      have ct1 := atc 45 225 (fun _ => rfl) (by decide) (i - 1) (by omega) (by omega) d
      rw [ek1, (hE (k - 1) (by omega)).1] at ct1
      exact ⟨_, _, Ic, Ir, fd_t_3 hG (by omega) (ti_1_3 hG ct (by omega) (by omega) ct1 (by omega)), fm_u hGr (by omega) (by omega) (by omega) (by rw [eki]; exact xt) (by rw [eki]; exact htm), Or.inr same⟩
    have xti : xEv L xs (d + 1) 57 0 [.ref 44, .int i, .ref 3, xmk] [] (124, Ic, Jc, R) (some (.int 1)) (124, Ic, Jc, R) := by
      by_cases k0 : k = 0
      · exact ti_0_3 hG ct (by omega) (by omega)
      · rw [if_neg k0] at hb
        have ei1 : (i - 1).toInt = k - 1 := by rw [i_sub (by rw [show (1 : Int32).toInt = 1 from by decide]; omega) (by rw [show (1 : Int32).toInt = 1 from by decide]; omega), show (1 : Int32).toInt = 1 from by decide]; omega
        have ec1 := clamp_s (i := i - 1) (by omega)
        have ek1 : (i - 1).toNatClampNeg = k - 1 := by omega
        have ct1 := atc 45 225 (fun _ => rfl) (by decide) (i - 1) (by omega) (by omega) d
        rw [ek1, (hE (k - 1) (by omega)).1] at ct1
        exact ti_2_3 hG ct (by omega) (by omega) ct1 (by omega)
    have ect := clamp_s (i := Ir 104 k) t0
    obtain ⟨b, hb', e1, e2, e3, -, g1, g2, g3, g4, g5⟩ := tmr2_3 hV0 (t := (Ir 104 k).toNatClampNeg) (by omega)
    have a1 := atc 20 64 (fun _ => rfl) (by decide) (Ir 104 k) (by omega) (by omega) d
    have a2 := atc 21 64 (fun _ => rfl) (by decide) (Ir 104 k) (by omega) (by omega) d
    rw [e2] at a1
    rw [e3] at a2
    have ecb := clamp_s (i := Ir 101 (Ir 104 k).toNatClampNeg) (by omega)
    have ekb : (Ir 101 (Ir 104 k).toNatClampNeg).toNatClampNeg = b := by omega
    have o1 := oA (L := L) (xs := xs) (d := d' + 1) (I := Ir) (J := Jr) (t := Ir 104 k) hGr (by omega) (by omega) (by omega) (by omega)
    have o2 := tA (L := L) (xs := xs) (d := d' + 1) (I := Ir) (J := Jr) (t := Ir 104 k) hGr (by omega) (by omega) (by omega) (by omega)
    rw [ekb] at o1 o2
    have hbe : (Ir 104 i.toNatClampNeg).toInt ≥ be.toInt := by rw [eki]; omega
    have next : ∀ (o' w' : Int32) (Ic' Ir' : Nat → Nat → Int32) (u7 u8 : Value), (∀ c q, c ≠ 50 → c ≠ 51 → Ic' c q = Ic c q) → (∀ c q, c ≠ 118 → Ir' c q = Ir c q) → Ic' 50 0 = o' → Ic' 50 1 = w' → Ic' 51 0 = Ir' 118 0 → Ic' 51 1 = Ir' 118 1 → ∃ (r1 r2 : Int32) (Ic2 Ir2 : Nat → Nat → Int32), xEv L xs (d + 2) 116 33 [.ref 49, .ref 3, .ref 44, .int a, .int (i + 1)] [] (124, Ic', Jc, R) (some (.int r1)) (124, Ic2, Jc, R) ∧ xEv L xs (d' + 3) 219 53 [.ref 86, .int a, .int 1, .int o', .int w', .int (Ir 104 i.toNatClampNeg), .int (i + 1), u7, u8] [] (124, Ir', Jr, Rr) (some (.int r2)) (124, Ir2, Jr, Rr) ∧ ((Ic2 49 3 = 1 ∧ Ir2 86 51 = 1 ∧ Ic2 52 0 = Ir2 117 0 ∧ Ic2 52 1 = Ir2 117 1) ∨ ((∀ c q, c ≠ 50 → c ≠ 51 → Ic2 c q = Ic c q) ∧ (∀ c q, c ≠ 118 → Ir2 c q = Ir c q))) := by
      intro o' w' Ic' Ir' u7 u8 c1 c2 c3 c4 c5 c6
      obtain ⟨r1, r2, Ic2, Ir2, y1, y2, y3⟩ := ih (k + 1) (i + 1) (Ir 104 i.toNatClampNeg) o' w' u7 u8 Ic' Ir' (by omega) hi' (by rw [if_neg (by omega), Nat.add_sub_cancel, c2 104 k (by decide), eki]) (VR_t_3 hV0 (fun c q h1 h2 => c1 c q (by omega) (by omega)) (fun c q hc => c2 c q (by omega))) (fun q hq => by rw [c1 45 q (by decide) (by decide), c1 46 q (by decide) (by decide), c2 104 q (by decide), c2 105 q (by decide)]; exact hE q hq) (fun q hq => by rw [c2 105 q (by decide)]; exact hN q hq) (by rw [c1 44 4 (by decide) (by decide)]; exact s1) (by rw [c2 86 30 (by decide)]; exact s2) c3 c4 c5 c6
      refine ⟨r1, r2, Ic2, Ir2, y1, y2, ?_⟩
      rcases y3 with y3 | ⟨y3, y4⟩
      · exact Or.inl y3
      · exact Or.inr ⟨fun c q h1 h2 => (y3 c q h1 h2).trans (c1 c q h1 h2), fun c q h1 => (y4 c q h1).trans (c2 c q h1)⟩
    have zo : (1 : Int32).toInt = 1 := by decide
    have hn : Ir 105 k = 0 ∨ Ir 105 k = 1 := by
      have h3 : (Ir 105 k).toInt = 0 ∨ (Ir 105 k).toInt = 1 := by omega
      rcases h3 with h3 | h3
      · exact Or.inl (Int32.toInt_inj.mp h3)
      · exact Or.inr (Int32.toInt_inj.mp h3)
    have cl0 : (0 : Int32).toNatClampNeg = 0 := by decide
    have cl1 : (1 : Int32).toNatClampNeg = 1 := by decide
    have cl2 : ((1 : Int32) - 0).toNatClampNeg = 1 := by decide
    have cl3 : ((1 : Int32) - 1).toNatClampNeg = 0 := by decide
    have clz : (0 : Int32).toInt = 0 := by decide
    rcases hn with hn | hn
    · by_cases u1 : (o).toInt = (Ir 92 b).toInt
      · have hm1 := mtb_0 (L := L) (xs := xs) (I := Ir) (J := Jr) (w := o) hGr o1 u1 o2
        obtain ⟨r1, r2, Ic2, Ir2, y1, y2, y3⟩ := next (Ir 93 b) (w) (uI (uI (uI Ic 50 0 (Ir 93 b)) 51 0 ((Ic 51 0) ||| (1 <<< ((Ir 93 b) &&& 31)))) 51 1 ((Ic 51 1) &&& ((1 <<< ((Ir 93 b) &&& 31)) ^^^ (-1)))) (uI (uI Ir 118 0 (Ir 118 0 ||| (1 <<< ((Ir 93 b) &&& 31)))) 118 1 ((uI Ir 118 0 (Ir 118 0 ||| (1 <<< ((Ir 93 b) &&& 31)))) 118 1 &&& ((1 <<< ((Ir 93 b) &&& 31)) ^^^ (-1)))) (.int (Ir 104 i.toNatClampNeg)) (.int (Ir 93 b)) (fun c q c1 c2 => by rw [uI_c _ _ _ c2, uI_c _ _ _ c2, uI_c _ _ _ c1]) (fun c q c1 => by rw [uI_c _ _ _ c1, uI_c _ _ _ c1]) (by rw [uI_c _ _ _ (by decide), uI_c _ _ _ (by decide), uI_s]) (by rw [uI_c _ _ _ (by decide), uI_c _ _ _ (by decide), uI_n _ _ (by omega)]; exact f2) (by rw [uI_n _ _ (by omega), uI_s, uI_n _ _ (by omega), uI_s, f3]) (by rw [uI_s, uI_s, uI_n _ _ (by omega), f4])
        refine ⟨r1, r2, Ic2, Ir2, fd_n_3 hG (by omega) xti at1 (by rw [hn] at at2; exact at2) (ft_a0_3 hG a1 a2 (by rw [f1]; exact u1) (by rw [f1]; exact u1)) y1, fm_0y hGr (by omega) (by omega) (by omega) (by rw [eki]; exact xt) hbe (by omega) (by omega) (by rw [eki, hn]; decide) (by rw [eki]; exact hm1) (by omega) (by omega) (by omega) (by rw [eki, hn]; decide) (by omega) (by omega) (by rw [eki]; omega) (by rw [eki]; omega) (by rw [eki]; omega) (by rw [eki]; omega) (by omega) (by omega) (by rw [eki, hn]; decide) (by rw [eki, hn]; decide) (by rw [eki, hn]; decide) (by rw [eki, hn]; decide) ?_, y3⟩
        rw [show Ir 105 i.toNatClampNeg = 0 from by rw [eki]; exact hn, cl0, cl2]
        exact y2
      · by_cases u2 : (o).toInt = (Ir 93 b).toInt
        · have hm1 := mtb_1 (L := L) (xs := xs) (I := Ir) (J := Jr) (w := o) hGr o1 u1 o2 u2 o1
          obtain ⟨r1, r2, Ic2, Ir2, y1, y2, y3⟩ := next (Ir 92 b) (w) (uI (uI (uI Ic 50 0 (Ir 92 b)) 51 0 ((Ic 51 0) ||| (1 <<< ((Ir 92 b) &&& 31)))) 51 1 ((Ic 51 1) &&& ((1 <<< ((Ir 92 b) &&& 31)) ^^^ (-1)))) (uI (uI Ir 118 0 (Ir 118 0 ||| (1 <<< ((Ir 92 b) &&& 31)))) 118 1 ((uI Ir 118 0 (Ir 118 0 ||| (1 <<< ((Ir 92 b) &&& 31)))) 118 1 &&& ((1 <<< ((Ir 92 b) &&& 31)) ^^^ (-1)))) (.int (Ir 104 i.toNatClampNeg)) (.int (Ir 92 b)) (fun c q c1 c2 => by rw [uI_c _ _ _ c2, uI_c _ _ _ c2, uI_c _ _ _ c1]) (fun c q c1 => by rw [uI_c _ _ _ c1, uI_c _ _ _ c1]) (by rw [uI_c _ _ _ (by decide), uI_c _ _ _ (by decide), uI_s]) (by rw [uI_c _ _ _ (by decide), uI_c _ _ _ (by decide), uI_n _ _ (by omega)]; exact f2) (by rw [uI_n _ _ (by omega), uI_s, uI_n _ _ (by omega), uI_s, f3]) (by rw [uI_s, uI_s, uI_n _ _ (by omega), f4])
          refine ⟨r1, r2, Ic2, Ir2, fd_n_3 hG (by omega) xti at1 (by rw [hn] at at2; exact at2) (ft_b0_3 hG a1 a2 (by rw [f1]; exact u1) (by rw [f1]; exact u2) (by rw [f1]; exact u1)) y1, fm_0y hGr (by omega) (by omega) (by omega) (by rw [eki]; exact xt) hbe (by omega) (by omega) (by rw [eki, hn]; decide) (by rw [eki]; exact hm1) (by omega) (by omega) (by omega) (by rw [eki, hn]; decide) (by omega) (by omega) (by rw [eki]; omega) (by rw [eki]; omega) (by rw [eki]; omega) (by rw [eki]; omega) (by omega) (by omega) (by rw [eki, hn]; decide) (by rw [eki, hn]; decide) (by rw [eki, hn]; decide) (by rw [eki, hn]; decide) ?_, y3⟩
          rw [show Ir 105 i.toNatClampNeg = 0 from by rw [eki]; exact hn, cl0, cl2]
          exact y2
        · have hm1 := mtb_2 (L := L) (xs := xs) (I := Ir) (J := Jr) (w := o) hGr o1 u1 o2 u2
          exact ⟨_, _, Ic, Ir, fd_f_3 hG (by omega) xti at1 (by rw [hn] at at2; exact at2) (ft_n0_3 hG a1 a2 (by rw [f1]; exact u1) (by rw [f1]; exact u2)), fm_0n hGr (by omega) (by omega) (by omega) (by rw [eki]; exact xt) hbe (by omega) (by omega) (by rw [eki, hn]; decide) (by rw [eki]; exact hm1), Or.inr same⟩
    · by_cases u1 : (w).toInt = (Ir 92 b).toInt
      · have hm1 := mtb_0 (L := L) (xs := xs) (I := Ir) (J := Jr) (w := w) hGr o1 u1 o2
        obtain ⟨r1, r2, Ic2, Ir2, y1, y2, y3⟩ := next (o) (Ir 93 b) (uI (uI (uI Ic 50 1 (Ir 93 b)) 51 1 ((Ic 51 1) ||| (1 <<< ((Ir 93 b) &&& 31)))) 51 0 ((Ic 51 0) &&& ((1 <<< ((Ir 93 b) &&& 31)) ^^^ (-1)))) (uI (uI Ir 118 1 (Ir 118 1 ||| (1 <<< ((Ir 93 b) &&& 31)))) 118 0 ((uI Ir 118 1 (Ir 118 1 ||| (1 <<< ((Ir 93 b) &&& 31)))) 118 0 &&& ((1 <<< ((Ir 93 b) &&& 31)) ^^^ (-1)))) (.int (Ir 104 i.toNatClampNeg)) (.int (Ir 93 b)) (fun c q c1 c2 => by rw [uI_c _ _ _ c2, uI_c _ _ _ c2, uI_c _ _ _ c1]) (fun c q c1 => by rw [uI_c _ _ _ c1, uI_c _ _ _ c1]) (by rw [uI_c _ _ _ (by decide), uI_c _ _ _ (by decide), uI_n _ _ (by omega)]; exact f1) (by rw [uI_c _ _ _ (by decide), uI_c _ _ _ (by decide), uI_s]) (by rw [uI_s, uI_s, uI_n _ _ (by omega), f3]) (by rw [uI_n _ _ (by omega), uI_s, uI_n _ _ (by omega), uI_s, f4])
        refine ⟨r1, r2, Ic2, Ir2, fd_n_3 hG (by omega) xti at1 (by rw [hn] at at2; exact at2) (ft_a1_3 hG a1 a2 (by rw [f2]; exact u1) (by rw [f2]; exact u1)) y1, fm_1y hGr (by omega) (by omega) (by omega) (by rw [eki]; exact xt) hbe (by omega) (by omega) (by rw [eki, hn]; decide) (by rw [eki]; exact hm1) (by omega) (by omega) (by omega) (by rw [eki, hn]; decide) (by omega) (by omega) (by rw [eki]; omega) (by rw [eki]; omega) (by rw [eki]; omega) (by rw [eki]; omega) (by omega) (by omega) (by rw [eki, hn]; decide) (by rw [eki, hn]; decide) (by rw [eki, hn]; decide) (by rw [eki, hn]; decide) ?_, y3⟩
        rw [show Ir 105 i.toNatClampNeg = 1 from by rw [eki]; exact hn, cl1, cl3]
        exact y2
      · by_cases u2 : (w).toInt = (Ir 93 b).toInt
        · have hm1 := mtb_1 (L := L) (xs := xs) (I := Ir) (J := Jr) (w := w) hGr o1 u1 o2 u2 o1
          obtain ⟨r1, r2, Ic2, Ir2, y1, y2, y3⟩ := next (o) (Ir 92 b) (uI (uI (uI Ic 50 1 (Ir 92 b)) 51 1 ((Ic 51 1) ||| (1 <<< ((Ir 92 b) &&& 31)))) 51 0 ((Ic 51 0) &&& ((1 <<< ((Ir 92 b) &&& 31)) ^^^ (-1)))) (uI (uI Ir 118 1 (Ir 118 1 ||| (1 <<< ((Ir 92 b) &&& 31)))) 118 0 ((uI Ir 118 1 (Ir 118 1 ||| (1 <<< ((Ir 92 b) &&& 31)))) 118 0 &&& ((1 <<< ((Ir 92 b) &&& 31)) ^^^ (-1)))) (.int (Ir 104 i.toNatClampNeg)) (.int (Ir 92 b)) (fun c q c1 c2 => by rw [uI_c _ _ _ c2, uI_c _ _ _ c2, uI_c _ _ _ c1]) (fun c q c1 => by rw [uI_c _ _ _ c1, uI_c _ _ _ c1]) (by rw [uI_c _ _ _ (by decide), uI_c _ _ _ (by decide), uI_n _ _ (by omega)]; exact f1) (by rw [uI_c _ _ _ (by decide), uI_c _ _ _ (by decide), uI_s]) (by rw [uI_s, uI_s, uI_n _ _ (by omega), f3]) (by rw [uI_n _ _ (by omega), uI_s, uI_n _ _ (by omega), uI_s, f4])
          refine ⟨r1, r2, Ic2, Ir2, fd_n_3 hG (by omega) xti at1 (by rw [hn] at at2; exact at2) (ft_b1_3 hG a1 a2 (by rw [f2]; exact u1) (by rw [f2]; exact u2) (by rw [f2]; exact u1)) y1, fm_1y hGr (by omega) (by omega) (by omega) (by rw [eki]; exact xt) hbe (by omega) (by omega) (by rw [eki, hn]; decide) (by rw [eki]; exact hm1) (by omega) (by omega) (by omega) (by rw [eki, hn]; decide) (by omega) (by omega) (by rw [eki]; omega) (by rw [eki]; omega) (by rw [eki]; omega) (by rw [eki]; omega) (by omega) (by omega) (by rw [eki, hn]; decide) (by rw [eki, hn]; decide) (by rw [eki, hn]; decide) (by rw [eki, hn]; decide) ?_, y3⟩
          rw [show Ir 105 i.toNatClampNeg = 1 from by rw [eki]; exact hn, cl1, cl3]
          exact y2
        · have hm1 := mtb_2 (L := L) (xs := xs) (I := Ir) (J := Jr) (w := w) hGr o1 u1 o2 u2
          exact ⟨_, _, Ic, Ir, fd_f_3 hG (by omega) xti at1 (by rw [hn] at at2; exact at2) (ft_n1_3 hG a1 a2 (by rw [f2]; exact u1) (by rw [f2]; exact u2)), fm_1n hGr (by omega) (by omega) (by omega) (by rw [eki]; exact xt) hbe (by omega) (by omega) (by rw [eki, hn]; decide) (by rw [eki]; exact hm1), Or.inr same⟩
theorem fgt_3 {L : Nat} {xs : Nat → Int32} {d d' : Nat} {R Rr : Nat → Nat → Nat} {n : Nat} {Ic Ir : Nat → Nat → Int32} {Jc Jr : Nat → Nat → Int64} (hG : aGd R) (hGr : aGd Rr) (h8 : R 0 8 = 4) (h4 : 4 ≤ d' + 1) (hn9 : n ≤ 900) (hn : (Ic 1 1).toInt = n) (hm : (Ir 86 1).toInt = n) (hb : bM Ir n = bX Ic n) {np nm nn : Nat} {l : List (Nat × Nat)} (hV : VR_3 np nm nn l Ic Ir) (a : Int32) :
    ∃ (r1 r2 : Int32) (Ic' Ir' : Nat → Nat → Int32) (Jc' Jr' : Nat → Nat → Int64), xEv L xs (d + 4) 115 0 [.ref 0, .int a, xmk] [] (124, Ic, Jc, R) (some (.int r1)) (124, Ic', Jc', R) ∧ xEv L xs (d' + 6) 219 0 [.ref 86, .int a, xmk, xmk, xmk, xmk, xmk, xmk, xmk] [] (124, Ir, Jr, Rr) (some (.int r2)) (124, Ir', Jr', Rr) ∧
    ((Ic' 49 3 = Ic 49 3 ∧ Ir' 86 51 = Ir 86 51 ∧ (∀ q, Ic' 52 q = Ic 52 q) ∧ (∀ q, Ir' 117 q = Ir 117 q)) ∨ (Ic' 49 3 = 1 ∧ Ir' 86 51 = 1 ∧ Ic' 52 0 = Ir' 117 0 ∧ Ic' 52 1 = Ir' 117 1)) := by
  obtain ⟨rc, rr, Ic1, Ir1, Jc1, Jr1, x1, x2, x3, x4, x6⟩ := rwsf (L := L) (xs := xs) (d := d) (d' := d') (R := R) (Rr := Rr) (Jc := Jc) (Jr := Jr) hG hGr h4 hn9 (mo := 1) (by decide) hn hm rfl hb
  have un : ∀ (Ic' Ir' : Nat → Nat → Int32), (∀ c q, c = 49 ∨ c = 52 → Ic' c q = Ic1 c q) → (∀ c q, (c = 86 ∧ q = 51) ∨ c = 117 → Ir' c q = Ir1 c q) → (Ic' 49 3 = Ic 49 3 ∧ Ir' 86 51 = Ir 86 51 ∧ (∀ q, Ic' 52 q = Ic 52 q) ∧ (∀ q, Ir' 117 q = Ir 117 q)) := by
    intro Ic' Ir' h1 h2
    refine ⟨?_, ?_, fun q => ?_, fun q => ?_⟩
    · rw [h1 49 3 (Or.inl rfl)]; exact x3 49 3 (by omega) (by omega) (by omega) (by omega)
    · rw [h2 86 51 (Or.inl ⟨rfl, rfl⟩)]; exact x4 86 51 (by omega) (by omega) (by omega) (by omega)
    · rw [h1 52 q (Or.inr rfl)]; exact x3 52 q (by omega) (by omega) (by omega) (by omega)
    · rw [h2 117 q (Or.inr rfl)]; exact x4 117 q (by omega) (by omega) (by omega) (by omega)
  have q1 : (Ic 3 14).toInt = np := hV.2.2.2.2.1.1
  have q2 : (Ir 88 0).toInt = np := hV.2.2.2.2.1.2
  have p1 := hV.1.1
  have q1' : ((uI Ic1 1 1 0) 3 14).toInt = np := by rw [uI_n _ _ (by omega), x3 3 14 (by omega) (by omega) (by omega) (by omega)]; exact q1
  have q2' : (Ir1 88 0).toInt = np := by rw [x4 88 0 (by omega) (by omega) (by omega) (by omega)]; exact q2
  have hpx := hp_run_3 (L := L) (xs := xs) (d := d + 3) (I := uI Ic1 1 1 0) (J := Jc1) hG q1' a
  have hpm := ip_run (L := L) (xs := xs) (d := d' + 4) (I := Ir1) (J := Jr1) hGr q2' a
  rcases hpx with ⟨ha, xa⟩ | ⟨ha, xa⟩
  rotate_left
  · rcases hpm with ⟨hb', -⟩ | ⟨-, xb⟩
    · exact absurd hb' ha
    · exact ⟨_, _, _, _, _, _, fg_p_3 hG x1 h8 xa, fm_p hGr x2 xb, Or.inl (un _ _ (fun c q h => uI_n _ _ (by omega)) (fun _ _ _ => rfl))⟩
  rcases hpm with ⟨-, xb⟩ | ⟨hb', -⟩
  rotate_left
  · exact absurd ha hb'
  have rof : ∀ (I : Nat → Nat → Int32) (r1 : Int32), ∃ r2 : Int32, xEv L xs (d + 3) 61 0 [.ref 0, .int r1] [] (124, I, Jc1, R) (some (.int r2)) (124, I, Jc1, R) := by
    intro I r1
    by_cases h : r1.toInt = (I 44 4).toInt
    · exact ⟨_, rw_0 hG h⟩
    · exact ⟨_, rw_1 hG h⟩
  rcases x6 with ⟨rfl, rfl⟩ | ⟨rfl, rfl, m, m1, m2, m3, m4, m5⟩ | ⟨rfl, rfl, m, j, m1, m2, m3, m4⟩
  · exact ⟨_, _, _, _, _, _, fg_r_3 hG x1 h8 xa, fm_r hGr x2 xb, Or.inl (un _ _ (fun c q h => uI_n _ _ (by omega)) (fun _ _ _ => rfl))⟩
  · have hV1 : VR_3 np nm nn l (uI (uI (uI (uI (uI Ic1 1 1 0) 50 0 a) 50 1 a) 51 0 (1 <<< (a &&& 31))) 51 1 0) (uI (uI Ir1 118 0 (1 <<< (a &&& 31))) 118 1 0) := VR_t_3 hV (fun c q c1 c2 => by rw [uI_n _ _ (by omega), uI_n _ _ (by omega), uI_n _ _ (by omega), uI_n _ _ (by omega), uI_n _ _ (by omega)]; exact x3 c q (by omega) (by omega) (by omega) (by omega)) (fun c q hc => by rw [uI_n _ _ (by omega), uI_n _ _ (by omega)]; exact x4 c q (by omega) (by omega) (by omega) (by omega))
    obtain ⟨r1, r2, Ic2, Ir2, y1, y2, y3⟩ := flp_3 (L := L) (xs := xs) (d := d + 1) (d' := d' + 3) (Jc := Jc1) (Jr := Jr1) hG hGr (np := np) (nm := nm) (nn := nn) (l := l) m1 (a := a) m 0 0 0 a a xmk xmk _ _ (by omega) (by decide) (by rw [if_pos rfl]; decide) hV1 (by
      intro q hq
      rw [uI_n _ _ (by omega), uI_n _ _ (by omega), uI_n _ _ (by omega), uI_n _ _ (by omega), uI_n _ _ (by omega), uI_n _ _ (by omega), uI_n _ _ (by omega), uI_n _ _ (by omega), uI_n _ _ (by omega), uI_n _ _ (by omega), uI_n _ _ (by omega), uI_n _ _ (by omega), uI_n _ _ (by omega), uI_n _ _ (by omega)]
      exact m4 q hq) (fun q hq => by rw [uI_n _ _ (by omega), uI_n _ _ (by omega)]; exact m5 q hq) (by rw [uI_n _ _ (by omega), uI_n _ _ (by omega), uI_n _ _ (by omega), uI_n _ _ (by omega), uI_n _ _ (by omega)]; exact m2) (by rw [uI_n _ _ (by omega), uI_n _ _ (by omega)]; exact m3) rfl rfl rfl rfl
    obtain ⟨r3, z⟩ := rof Ic2 r1
    refine ⟨r3, r2, Ic2, Ir2, _, _, fg_d_3 hG x1 h8 xa (fd_s_3 hG y1) z, fm_s hGr x2 xb y2, ?_⟩
    rcases y3 with y3 | ⟨y3, y4⟩
    · exact Or.inr y3
    · exact Or.inl (un _ _ (fun c q h => by rw [y3 c q (by omega) (by omega), uI_n _ _ (by omega), uI_n _ _ (by omega), uI_n _ _ (by omega), uI_n _ _ (by omega), uI_n _ _ (by omega)]) (fun c q h => by rw [y4 c q (by omega), uI_n _ _ (by omega), uI_n _ _ (by omega)]))
  · obtain ⟨r1, Ic2, y1, y3⟩ := fcl_3 (L := L) (xs := xs) (d := d + 1) (J := Jc1) (R := R) hG m1 m3 (a := a) j 0 0 (uI (uI (uI (uI (uI Ic1 1 1 0) 50 0 a) 50 1 a) 51 0 (1 <<< (a &&& 31))) 51 1 0) (by omega) (by decide) (by rw [uI_n _ _ (by omega), uI_n _ _ (by omega), uI_n _ _ (by omega), uI_n _ _ (by omega), uI_n _ _ (by omega)]; exact m2) (by rw [uI_n _ _ (by omega), uI_n _ _ (by omega), uI_n _ _ (by omega), uI_n _ _ (by omega), uI_n _ _ (by omega)]; exact m4)
    obtain ⟨r3, z⟩ := rof Ic2 r1
    exact ⟨r3, _, Ic2, _, _, _, fg_d_3 hG x1 h8 xa (fd_s_3 hG y1) z, fm_r hGr x2 xb, Or.inl (un _ _ (fun c q h => by rw [y3 c q (by omega) (by omega), uI_n _ _ (by omega), uI_n _ _ (by omega), uI_n _ _ (by omega), uI_n _ _ (by omega), uI_n _ _ (by omega)]) (fun _ _ _ => rfl))⟩
theorem flp_23 {L : Nat} {xs : Nat → Int32} {d d' : Nat} {Jc Jr : Nat → Nat → Int64} {R Rr : Nat → Nat → Nat} (hG : aGd R) (hGr : aGd Rr) {np nm nn : Nat} {l : List (Nat × Nat)} {m : Nat} (hm : m ≤ 225) {a : Int32} : ∀ (f k : Nat) (i be o w : Int32) (w7 w8 : Value) (Ic Ir : Nat → Nat → Int32), k + f = m → i.toInt = k → (be.toInt = if k = 0 then 0 else (Ir 104 (k - 1)).toInt) → VR_23 np nm nn l Ic Ir → rwE m Ic Ir → (∀ q, q < m → (Ir 105 q).toInt < 2) → (Ic 44 4).toInt = m → (Ir 86 30).toInt = m → Ic 50 0 = o → Ic 50 1 = w → Ic 51 0 = Ir 118 0 → Ic 51 1 = Ir 118 1 →
    ∃ (r1 r2 : Int32) (Ic' Ir' : Nat → Nat → Int32), xEv L xs (d + 2) 116 33 [.ref 49, .ref 23, .ref 44, .int a, .int i] [] (124, Ic, Jc, R) (some (.int r1)) (124, Ic', Jc, R) ∧ xEv L xs (d' + 3) 219 53 [.ref 86, .int a, .int 1, .int o, .int w, .int be, .int i, w7, w8] [] (124, Ir, Jr, Rr) (some (.int r2)) (124, Ir', Jr, Rr) ∧ ((Ic' 49 3 = 1 ∧ Ir' 86 51 = 1 ∧ Ic' 52 0 = Ir' 117 0 ∧ Ic' 52 1 = Ir' 117 1) ∨ ((∀ c q, c ≠ 50 → c ≠ 51 → Ic' c q = Ic c q) ∧ (∀ c q, c ≠ 118 → Ir' c q = Ir c q))) := by
  intro f
  induction f with
  | zero =>
    intro k i be o w w7 w8 Ic Ir hk hi hb hV hE hN s1 s2 f1 f2 f3 f4
    exact ⟨_, _, _, _, fd_e_23 hG (by omega), fm_e hGr (by omega), Or.inl ⟨rfl, rfl, f3, f4⟩⟩
  | succ f ih =>
    intro k i be o w w7 w8 Ic Ir hk hi hb hV hE hN s1 s2 f1 f2 f3 f4
    have hV0 := hV
    obtain ⟨⟨p1, p2, p3⟩, p4, p5, p6, ⟨q1, q2⟩, ⟨q3, q4⟩, ⟨q5, q6⟩, q7, q8, q9, ⟨q10, q11⟩, -⟩ := hV
    obtain ⟨e45, e46, t0, t1, n0, n1⟩ := hE k (by omega)
    have n2 := hN k (by omega)
    have eci := clamp_s (i := i) (by omega)
    have eki : i.toNatClampNeg = k := by omega
    have hi' : (i + 1).toInt = (k + 1 : Nat) := by rw [i_add1 (by omega)]; omega
    have atc : ∀ (c n : Nat), (∀ f : FieldType → Nat → Option xR, xarr (124, Ic, Jc, R) c f = f .int n) → n < 2147483648 → ∀ (x : Int32), 0 ≤ x.toInt → x.toInt < n → ∀ d, xEv L xs d 39 0 [.ref c, .int x] [] (124, Ic, Jc, R) (some (.int (Ic c x.toNatClampNeg))) (124, Ic, Jc, R) := by
      intro c n ho hn x x0 x1 d
      have h4 := at_run (L := L) (xs := xs) (d := d) (h := (124, Ic, Jc, R)) ho hn x
      rw [if_pos ⟨x0, x1⟩] at h4
      exact h4
    have ct := atc 45 225 (fun _ => rfl) (by decide) i (by omega) (by omega) d
    have at1 := atc 45 225 (fun _ => rfl) (by decide) i (by omega) (by omega) (d + 1)
    have at2 := atc 46 225 (fun _ => rfl) (by decide) i (by omega) (by omega) (d + 1)
    rw [eki, e45] at ct at1
    rw [eki, e46] at at2
    have same : ((∀ c q, c ≠ 50 → c ≠ 51 → Ic c q = Ic c q) ∧ (∀ c q, c ≠ 118 → Ir c q = Ir c q)) := ⟨fun _ _ _ _ => rfl, fun _ _ _ => rfl⟩
    have itr := it_run (L := L) (xs := xs) (d := d' + 1) (I := Ir) (J := Jr) hGr q11 (Ir 104 k)
    by_cases hl : (Ir 104 k).toInt ≥ l.length
    · rcases itr with ⟨z, -⟩ | ⟨-, z⟩
      · exact absurd z.2 (by omega)
      · exact ⟨_, _, Ic, Ir, fd_t_23 hG (by omega) (ti_a_23 hG ct (by omega)), fm_t hGr (by omega) (by omega) (by omega) (by rw [eki]; exact z), Or.inr same⟩
    have xt : xEv L xs (d' + 2) 171 0 [.ref 86, .int (Ir 104 k)] [] (124, Ir, Jr, Rr) (some (.int 1)) (124, Ir, Jr, Rr) := by
      rcases itr with ⟨-, z⟩ | ⟨z, -⟩
      · exact z
      · exact absurd ⟨by omega, by omega⟩ z
    by_cases htm : (Ir 104 k).toInt < be.toInt
    · have k0 : k ≠ 0 := fun z => by rw [if_pos z] at hb; omega
      rw [if_neg k0] at hb
      have ei1 : (i - 1).toInt = k - 1 := by rw [i_sub (by rw [show (1 : Int32).toInt = 1 from by decide]; omega) (by rw [show (1 : Int32).toInt = 1 from by decide]; omega), show (1 : Int32).toInt = 1 from by decide]; omega
      have ec1 := clamp_s (i := i - 1) (by omega)
      have ek1 : (i - 1).toNatClampNeg = k - 1 := by omega
      have ct1 := atc 45 225 (fun _ => rfl) (by decide) (i - 1) (by omega) (by omega) d
      rw [ek1, (hE (k - 1) (by omega)).1] at ct1
      exact ⟨_, _, Ic, Ir, fd_t_23 hG (by omega) (ti_1_23 hG ct (by omega) (by omega) ct1 (by omega)), fm_u hGr (by omega) (by omega) (by omega) (by rw [eki]; exact xt) (by rw [eki]; exact htm), Or.inr same⟩
    have xti : xEv L xs (d + 1) 57 0 [.ref 44, .int i, .ref 23, xmk] [] (124, Ic, Jc, R) (some (.int 1)) (124, Ic, Jc, R) := by
      by_cases k0 : k = 0
      · exact ti_0_23 hG ct (by omega) (by omega)
      · rw [if_neg k0] at hb
        have ei1 : (i - 1).toInt = k - 1 := by rw [i_sub (by rw [show (1 : Int32).toInt = 1 from by decide]; omega) (by rw [show (1 : Int32).toInt = 1 from by decide]; omega), show (1 : Int32).toInt = 1 from by decide]; omega
        have ec1 := clamp_s (i := i - 1) (by omega)
        have ek1 : (i - 1).toNatClampNeg = k - 1 := by omega
        have ct1 := atc 45 225 (fun _ => rfl) (by decide) (i - 1) (by omega) (by omega) d
        rw [ek1, (hE (k - 1) (by omega)).1] at ct1
        exact ti_2_23 hG ct (by omega) (by omega) ct1 (by omega)
    have ect := clamp_s (i := Ir 104 k) t0
    obtain ⟨b, hb', e1, e2, e3, -, g1, g2, g3, g4, g5⟩ := tmr2_23 hV0 (t := (Ir 104 k).toNatClampNeg) (by omega)
    have a1 := atc 40 64 (fun _ => rfl) (by decide) (Ir 104 k) (by omega) (by omega) d
    have a2 := atc 41 64 (fun _ => rfl) (by decide) (Ir 104 k) (by omega) (by omega) d
    rw [e2] at a1
    rw [e3] at a2
    have ecb := clamp_s (i := Ir 101 (Ir 104 k).toNatClampNeg) (by omega)
    have ekb : (Ir 101 (Ir 104 k).toNatClampNeg).toNatClampNeg = b := by omega
    have o1 := oA (L := L) (xs := xs) (d := d' + 1) (I := Ir) (J := Jr) (t := Ir 104 k) hGr (by omega) (by omega) (by omega) (by omega)
    have o2 := tA (L := L) (xs := xs) (d := d' + 1) (I := Ir) (J := Jr) (t := Ir 104 k) hGr (by omega) (by omega) (by omega) (by omega)
    rw [ekb] at o1 o2
    have hbe : (Ir 104 i.toNatClampNeg).toInt ≥ be.toInt := by rw [eki]; omega
    have next : ∀ (o' w' : Int32) (Ic' Ir' : Nat → Nat → Int32) (u7 u8 : Value), (∀ c q, c ≠ 50 → c ≠ 51 → Ic' c q = Ic c q) → (∀ c q, c ≠ 118 → Ir' c q = Ir c q) → Ic' 50 0 = o' → Ic' 50 1 = w' → Ic' 51 0 = Ir' 118 0 → Ic' 51 1 = Ir' 118 1 → ∃ (r1 r2 : Int32) (Ic2 Ir2 : Nat → Nat → Int32), xEv L xs (d + 2) 116 33 [.ref 49, .ref 23, .ref 44, .int a, .int (i + 1)] [] (124, Ic', Jc, R) (some (.int r1)) (124, Ic2, Jc, R) ∧ xEv L xs (d' + 3) 219 53 [.ref 86, .int a, .int 1, .int o', .int w', .int (Ir 104 i.toNatClampNeg), .int (i + 1), u7, u8] [] (124, Ir', Jr, Rr) (some (.int r2)) (124, Ir2, Jr, Rr) ∧ ((Ic2 49 3 = 1 ∧ Ir2 86 51 = 1 ∧ Ic2 52 0 = Ir2 117 0 ∧ Ic2 52 1 = Ir2 117 1) ∨ ((∀ c q, c ≠ 50 → c ≠ 51 → Ic2 c q = Ic c q) ∧ (∀ c q, c ≠ 118 → Ir2 c q = Ir c q))) := by
      intro o' w' Ic' Ir' u7 u8 c1 c2 c3 c4 c5 c6
      obtain ⟨r1, r2, Ic2, Ir2, y1, y2, y3⟩ := ih (k + 1) (i + 1) (Ir 104 i.toNatClampNeg) o' w' u7 u8 Ic' Ir' (by omega) hi' (by rw [if_neg (by omega), Nat.add_sub_cancel, c2 104 k (by decide), eki]) (VR_t_23 hV0 (fun c q h1 h2 => c1 c q (by omega) (by omega)) (fun c q hc => c2 c q (by omega))) (fun q hq => by rw [c1 45 q (by decide) (by decide), c1 46 q (by decide) (by decide), c2 104 q (by decide), c2 105 q (by decide)]; exact hE q hq) (fun q hq => by rw [c2 105 q (by decide)]; exact hN q hq) (by rw [c1 44 4 (by decide) (by decide)]; exact s1) (by rw [c2 86 30 (by decide)]; exact s2) c3 c4 c5 c6
      refine ⟨r1, r2, Ic2, Ir2, y1, y2, ?_⟩
      rcases y3 with y3 | ⟨y3, y4⟩
      · exact Or.inl y3
      · exact Or.inr ⟨fun c q h1 h2 => (y3 c q h1 h2).trans (c1 c q h1 h2), fun c q h1 => (y4 c q h1).trans (c2 c q h1)⟩
    have zo : (1 : Int32).toInt = 1 := by decide
    have hn : Ir 105 k = 0 ∨ Ir 105 k = 1 := by
      have h3 : (Ir 105 k).toInt = 0 ∨ (Ir 105 k).toInt = 1 := by omega
      rcases h3 with h3 | h3
      · exact Or.inl (Int32.toInt_inj.mp h3)
      · exact Or.inr (Int32.toInt_inj.mp h3)
    have cl0 : (0 : Int32).toNatClampNeg = 0 := by decide
    have cl1 : (1 : Int32).toNatClampNeg = 1 := by decide
    have cl2 : ((1 : Int32) - 0).toNatClampNeg = 1 := by decide
    have cl3 : ((1 : Int32) - 1).toNatClampNeg = 0 := by decide
    have clz : (0 : Int32).toInt = 0 := by decide
    rcases hn with hn | hn
    · by_cases u1 : (o).toInt = (Ir 92 b).toInt
      · have hm1 := mtb_0 (L := L) (xs := xs) (I := Ir) (J := Jr) (w := o) hGr o1 u1 o2
        obtain ⟨r1, r2, Ic2, Ir2, y1, y2, y3⟩ := next (Ir 93 b) (w) (uI (uI (uI Ic 50 0 (Ir 93 b)) 51 0 ((Ic 51 0) ||| (1 <<< ((Ir 93 b) &&& 31)))) 51 1 ((Ic 51 1) &&& ((1 <<< ((Ir 93 b) &&& 31)) ^^^ (-1)))) (uI (uI Ir 118 0 (Ir 118 0 ||| (1 <<< ((Ir 93 b) &&& 31)))) 118 1 ((uI Ir 118 0 (Ir 118 0 ||| (1 <<< ((Ir 93 b) &&& 31)))) 118 1 &&& ((1 <<< ((Ir 93 b) &&& 31)) ^^^ (-1)))) (.int (Ir 104 i.toNatClampNeg)) (.int (Ir 93 b)) (fun c q c1 c2 => by rw [uI_c _ _ _ c2, uI_c _ _ _ c2, uI_c _ _ _ c1]) (fun c q c1 => by rw [uI_c _ _ _ c1, uI_c _ _ _ c1]) (by rw [uI_c _ _ _ (by decide), uI_c _ _ _ (by decide), uI_s]) (by rw [uI_c _ _ _ (by decide), uI_c _ _ _ (by decide), uI_n _ _ (by omega)]; exact f2) (by rw [uI_n _ _ (by omega), uI_s, uI_n _ _ (by omega), uI_s, f3]) (by rw [uI_s, uI_s, uI_n _ _ (by omega), f4])
        refine ⟨r1, r2, Ic2, Ir2, fd_n_23 hG (by omega) xti at1 (by rw [hn] at at2; exact at2) (ft_a0_23 hG a1 a2 (by rw [f1]; exact u1) (by rw [f1]; exact u1)) y1, fm_0y hGr (by omega) (by omega) (by omega) (by rw [eki]; exact xt) hbe (by omega) (by omega) (by rw [eki, hn]; decide) (by rw [eki]; exact hm1) (by omega) (by omega) (by omega) (by rw [eki, hn]; decide) (by omega) (by omega) (by rw [eki]; omega) (by rw [eki]; omega) (by rw [eki]; omega) (by rw [eki]; omega) (by omega) (by omega) (by rw [eki, hn]; decide) (by rw [eki, hn]; decide) (by rw [eki, hn]; decide) (by rw [eki, hn]; decide) ?_, y3⟩
        rw [show Ir 105 i.toNatClampNeg = 0 from by rw [eki]; exact hn, cl0, cl2]
        exact y2
      · by_cases u2 : (o).toInt = (Ir 93 b).toInt
        · have hm1 := mtb_1 (L := L) (xs := xs) (I := Ir) (J := Jr) (w := o) hGr o1 u1 o2 u2 o1
          obtain ⟨r1, r2, Ic2, Ir2, y1, y2, y3⟩ := next (Ir 92 b) (w) (uI (uI (uI Ic 50 0 (Ir 92 b)) 51 0 ((Ic 51 0) ||| (1 <<< ((Ir 92 b) &&& 31)))) 51 1 ((Ic 51 1) &&& ((1 <<< ((Ir 92 b) &&& 31)) ^^^ (-1)))) (uI (uI Ir 118 0 (Ir 118 0 ||| (1 <<< ((Ir 92 b) &&& 31)))) 118 1 ((uI Ir 118 0 (Ir 118 0 ||| (1 <<< ((Ir 92 b) &&& 31)))) 118 1 &&& ((1 <<< ((Ir 92 b) &&& 31)) ^^^ (-1)))) (.int (Ir 104 i.toNatClampNeg)) (.int (Ir 92 b)) (fun c q c1 c2 => by rw [uI_c _ _ _ c2, uI_c _ _ _ c2, uI_c _ _ _ c1]) (fun c q c1 => by rw [uI_c _ _ _ c1, uI_c _ _ _ c1]) (by rw [uI_c _ _ _ (by decide), uI_c _ _ _ (by decide), uI_s]) (by rw [uI_c _ _ _ (by decide), uI_c _ _ _ (by decide), uI_n _ _ (by omega)]; exact f2) (by rw [uI_n _ _ (by omega), uI_s, uI_n _ _ (by omega), uI_s, f3]) (by rw [uI_s, uI_s, uI_n _ _ (by omega), f4])
          refine ⟨r1, r2, Ic2, Ir2, fd_n_23 hG (by omega) xti at1 (by rw [hn] at at2; exact at2) (ft_b0_23 hG a1 a2 (by rw [f1]; exact u1) (by rw [f1]; exact u2) (by rw [f1]; exact u1)) y1, fm_0y hGr (by omega) (by omega) (by omega) (by rw [eki]; exact xt) hbe (by omega) (by omega) (by rw [eki, hn]; decide) (by rw [eki]; exact hm1) (by omega) (by omega) (by omega) (by rw [eki, hn]; decide) (by omega) (by omega) (by rw [eki]; omega) (by rw [eki]; omega) (by rw [eki]; omega) (by rw [eki]; omega) (by omega) (by omega) (by rw [eki, hn]; decide) (by rw [eki, hn]; decide) (by rw [eki, hn]; decide) (by rw [eki, hn]; decide) ?_, y3⟩
          rw [show Ir 105 i.toNatClampNeg = 0 from by rw [eki]; exact hn, cl0, cl2]
          exact y2
        · have hm1 := mtb_2 (L := L) (xs := xs) (I := Ir) (J := Jr) (w := o) hGr o1 u1 o2 u2
          exact ⟨_, _, Ic, Ir, fd_f_23 hG (by omega) xti at1 (by rw [hn] at at2; exact at2) (ft_n0_23 hG a1 a2 (by rw [f1]; exact u1) (by rw [f1]; exact u2)), fm_0n hGr (by omega) (by omega) (by omega) (by rw [eki]; exact xt) hbe (by omega) (by omega) (by rw [eki, hn]; decide) (by rw [eki]; exact hm1), Or.inr same⟩
    · by_cases u1 : (w).toInt = (Ir 92 b).toInt
      · have hm1 := mtb_0 (L := L) (xs := xs) (I := Ir) (J := Jr) (w := w) hGr o1 u1 o2
        obtain ⟨r1, r2, Ic2, Ir2, y1, y2, y3⟩ := next (o) (Ir 93 b) (uI (uI (uI Ic 50 1 (Ir 93 b)) 51 1 ((Ic 51 1) ||| (1 <<< ((Ir 93 b) &&& 31)))) 51 0 ((Ic 51 0) &&& ((1 <<< ((Ir 93 b) &&& 31)) ^^^ (-1)))) (uI (uI Ir 118 1 (Ir 118 1 ||| (1 <<< ((Ir 93 b) &&& 31)))) 118 0 ((uI Ir 118 1 (Ir 118 1 ||| (1 <<< ((Ir 93 b) &&& 31)))) 118 0 &&& ((1 <<< ((Ir 93 b) &&& 31)) ^^^ (-1)))) (.int (Ir 104 i.toNatClampNeg)) (.int (Ir 93 b)) (fun c q c1 c2 => by rw [uI_c _ _ _ c2, uI_c _ _ _ c2, uI_c _ _ _ c1]) (fun c q c1 => by rw [uI_c _ _ _ c1, uI_c _ _ _ c1]) (by rw [uI_c _ _ _ (by decide), uI_c _ _ _ (by decide), uI_n _ _ (by omega)]; exact f1) (by rw [uI_c _ _ _ (by decide), uI_c _ _ _ (by decide), uI_s]) (by rw [uI_s, uI_s, uI_n _ _ (by omega), f3]) (by rw [uI_n _ _ (by omega), uI_s, uI_n _ _ (by omega), uI_s, f4])
        refine ⟨r1, r2, Ic2, Ir2, fd_n_23 hG (by omega) xti at1 (by rw [hn] at at2; exact at2) (ft_a1_23 hG a1 a2 (by rw [f2]; exact u1) (by rw [f2]; exact u1)) y1, fm_1y hGr (by omega) (by omega) (by omega) (by rw [eki]; exact xt) hbe (by omega) (by omega) (by rw [eki, hn]; decide) (by rw [eki]; exact hm1) (by omega) (by omega) (by omega) (by rw [eki, hn]; decide) (by omega) (by omega) (by rw [eki]; omega) (by rw [eki]; omega) (by rw [eki]; omega) (by rw [eki]; omega) (by omega) (by omega) (by rw [eki, hn]; decide) (by rw [eki, hn]; decide) (by rw [eki, hn]; decide) (by rw [eki, hn]; decide) ?_, y3⟩
        rw [show Ir 105 i.toNatClampNeg = 1 from by rw [eki]; exact hn, cl1, cl3]
        exact y2
      · by_cases u2 : (w).toInt = (Ir 93 b).toInt
        · have hm1 := mtb_1 (L := L) (xs := xs) (I := Ir) (J := Jr) (w := w) hGr o1 u1 o2 u2 o1
          obtain ⟨r1, r2, Ic2, Ir2, y1, y2, y3⟩ := next (o) (Ir 92 b) (uI (uI (uI Ic 50 1 (Ir 92 b)) 51 1 ((Ic 51 1) ||| (1 <<< ((Ir 92 b) &&& 31)))) 51 0 ((Ic 51 0) &&& ((1 <<< ((Ir 92 b) &&& 31)) ^^^ (-1)))) (uI (uI Ir 118 1 (Ir 118 1 ||| (1 <<< ((Ir 92 b) &&& 31)))) 118 0 ((uI Ir 118 1 (Ir 118 1 ||| (1 <<< ((Ir 92 b) &&& 31)))) 118 0 &&& ((1 <<< ((Ir 92 b) &&& 31)) ^^^ (-1)))) (.int (Ir 104 i.toNatClampNeg)) (.int (Ir 92 b)) (fun c q c1 c2 => by rw [uI_c _ _ _ c2, uI_c _ _ _ c2, uI_c _ _ _ c1]) (fun c q c1 => by rw [uI_c _ _ _ c1, uI_c _ _ _ c1]) (by rw [uI_c _ _ _ (by decide), uI_c _ _ _ (by decide), uI_n _ _ (by omega)]; exact f1) (by rw [uI_c _ _ _ (by decide), uI_c _ _ _ (by decide), uI_s]) (by rw [uI_s, uI_s, uI_n _ _ (by omega), f3]) (by rw [uI_n _ _ (by omega), uI_s, uI_n _ _ (by omega), uI_s, f4])
          refine ⟨r1, r2, Ic2, Ir2, fd_n_23 hG (by omega) xti at1 (by rw [hn] at at2; exact at2) (ft_b1_23 hG a1 a2 (by rw [f2]; exact u1) (by rw [f2]; exact u2) (by rw [f2]; exact u1)) y1, fm_1y hGr (by omega) (by omega) (by omega) (by rw [eki]; exact xt) hbe (by omega) (by omega) (by rw [eki, hn]; decide) (by rw [eki]; exact hm1) (by omega) (by omega) (by omega) (by rw [eki, hn]; decide) (by omega) (by omega) (by rw [eki]; omega) (by rw [eki]; omega) (by rw [eki]; omega) (by rw [eki]; omega) (by omega) (by omega) (by rw [eki, hn]; decide) (by rw [eki, hn]; decide) (by rw [eki, hn]; decide) (by rw [eki, hn]; decide) ?_, y3⟩
          rw [show Ir 105 i.toNatClampNeg = 1 from by rw [eki]; exact hn, cl1, cl3]
          exact y2
        · have hm1 := mtb_2 (L := L) (xs := xs) (I := Ir) (J := Jr) (w := w) hGr o1 u1 o2 u2
          exact ⟨_, _, Ic, Ir, fd_f_23 hG (by omega) xti at1 (by rw [hn] at at2; exact at2) (ft_n1_23 hG a1 a2 (by rw [f2]; exact u1) (by rw [f2]; exact u2)), fm_1n hGr (by omega) (by omega) (by omega) (by rw [eki]; exact xt) hbe (by omega) (by omega) (by rw [eki, hn]; decide) (by rw [eki]; exact hm1), Or.inr same⟩
theorem fgt_23 {L : Nat} {xs : Nat → Int32} {d d' : Nat} {R Rr : Nat → Nat → Nat} {n : Nat} {Ic Ir : Nat → Nat → Int32} {Jc Jr : Nat → Nat → Int64} (hG : aGd R) (hGr : aGd Rr) (h8 : R 0 8 = 24) (h4 : 4 ≤ d' + 1) (hn9 : n ≤ 900) (hn : (Ic 1 1).toInt = n) (hm : (Ir 86 1).toInt = n) (hb : bM Ir n = bX Ic n) {np nm nn : Nat} {l : List (Nat × Nat)} (hV : VR_23 np nm nn l Ic Ir) (a : Int32) :
    ∃ (r1 r2 : Int32) (Ic' Ir' : Nat → Nat → Int32) (Jc' Jr' : Nat → Nat → Int64), xEv L xs (d + 4) 115 0 [.ref 0, .int a, xmk] [] (124, Ic, Jc, R) (some (.int r1)) (124, Ic', Jc', R) ∧ xEv L xs (d' + 6) 219 0 [.ref 86, .int a, xmk, xmk, xmk, xmk, xmk, xmk, xmk] [] (124, Ir, Jr, Rr) (some (.int r2)) (124, Ir', Jr', Rr) ∧
    ((Ic' 49 3 = Ic 49 3 ∧ Ir' 86 51 = Ir 86 51 ∧ (∀ q, Ic' 52 q = Ic 52 q) ∧ (∀ q, Ir' 117 q = Ir 117 q)) ∨ (Ic' 49 3 = 1 ∧ Ir' 86 51 = 1 ∧ Ic' 52 0 = Ir' 117 0 ∧ Ic' 52 1 = Ir' 117 1)) := by
  obtain ⟨rc, rr, Ic1, Ir1, Jc1, Jr1, x1, x2, x3, x4, x6⟩ := rwsf (L := L) (xs := xs) (d := d) (d' := d') (R := R) (Rr := Rr) (Jc := Jc) (Jr := Jr) hG hGr h4 hn9 (mo := 1) (by decide) hn hm rfl hb
  have un : ∀ (Ic' Ir' : Nat → Nat → Int32), (∀ c q, c = 49 ∨ c = 52 → Ic' c q = Ic1 c q) → (∀ c q, (c = 86 ∧ q = 51) ∨ c = 117 → Ir' c q = Ir1 c q) → (Ic' 49 3 = Ic 49 3 ∧ Ir' 86 51 = Ir 86 51 ∧ (∀ q, Ic' 52 q = Ic 52 q) ∧ (∀ q, Ir' 117 q = Ir 117 q)) := by
    intro Ic' Ir' h1 h2
    refine ⟨?_, ?_, fun q => ?_, fun q => ?_⟩
    · rw [h1 49 3 (Or.inl rfl)]; exact x3 49 3 (by omega) (by omega) (by omega) (by omega)
    · rw [h2 86 51 (Or.inl ⟨rfl, rfl⟩)]; exact x4 86 51 (by omega) (by omega) (by omega) (by omega)
    · rw [h1 52 q (Or.inr rfl)]; exact x3 52 q (by omega) (by omega) (by omega) (by omega)
    · rw [h2 117 q (Or.inr rfl)]; exact x4 117 q (by omega) (by omega) (by omega) (by omega)
  have q1 : (Ic 23 14).toInt = np := hV.2.2.2.2.1.1
  have q2 : (Ir 88 0).toInt = np := hV.2.2.2.2.1.2
  have p1 := hV.1.1
  have q1' : ((uI Ic1 1 1 0) 23 14).toInt = np := by rw [uI_n _ _ (by omega), x3 23 14 (by omega) (by omega) (by omega) (by omega)]; exact q1
  have q2' : (Ir1 88 0).toInt = np := by rw [x4 88 0 (by omega) (by omega) (by omega) (by omega)]; exact q2
  have hpx := hp_run_23 (L := L) (xs := xs) (d := d + 3) (I := uI Ic1 1 1 0) (J := Jc1) hG q1' a
  have hpm := ip_run (L := L) (xs := xs) (d := d' + 4) (I := Ir1) (J := Jr1) hGr q2' a
  rcases hpx with ⟨ha, xa⟩ | ⟨ha, xa⟩
  rotate_left
  · rcases hpm with ⟨hb', -⟩ | ⟨-, xb⟩
    · exact absurd hb' ha
    · exact ⟨_, _, _, _, _, _, fg_p_23 hG x1 h8 xa, fm_p hGr x2 xb, Or.inl (un _ _ (fun c q h => uI_n _ _ (by omega)) (fun _ _ _ => rfl))⟩
  rcases hpm with ⟨-, xb⟩ | ⟨hb', -⟩
  rotate_left
  · exact absurd ha hb'
  have rof : ∀ (I : Nat → Nat → Int32) (r1 : Int32), ∃ r2 : Int32, xEv L xs (d + 3) 61 0 [.ref 0, .int r1] [] (124, I, Jc1, R) (some (.int r2)) (124, I, Jc1, R) := by
    intro I r1
    by_cases h : r1.toInt = (I 44 4).toInt
    · exact ⟨_, rw_0 hG h⟩
    · exact ⟨_, rw_1 hG h⟩
  rcases x6 with ⟨rfl, rfl⟩ | ⟨rfl, rfl, m, m1, m2, m3, m4, m5⟩ | ⟨rfl, rfl, m, j, m1, m2, m3, m4⟩
  · exact ⟨_, _, _, _, _, _, fg_r_23 hG x1 h8 xa, fm_r hGr x2 xb, Or.inl (un _ _ (fun c q h => uI_n _ _ (by omega)) (fun _ _ _ => rfl))⟩
  · have hV1 : VR_23 np nm nn l (uI (uI (uI (uI (uI Ic1 1 1 0) 50 0 a) 50 1 a) 51 0 (1 <<< (a &&& 31))) 51 1 0) (uI (uI Ir1 118 0 (1 <<< (a &&& 31))) 118 1 0) := VR_t_23 hV (fun c q c1 c2 => by rw [uI_n _ _ (by omega), uI_n _ _ (by omega), uI_n _ _ (by omega), uI_n _ _ (by omega), uI_n _ _ (by omega)]; exact x3 c q (by omega) (by omega) (by omega) (by omega)) (fun c q hc => by rw [uI_n _ _ (by omega), uI_n _ _ (by omega)]; exact x4 c q (by omega) (by omega) (by omega) (by omega))
    obtain ⟨r1, r2, Ic2, Ir2, y1, y2, y3⟩ := flp_23 (L := L) (xs := xs) (d := d + 1) (d' := d' + 3) (Jc := Jc1) (Jr := Jr1) hG hGr (np := np) (nm := nm) (nn := nn) (l := l) m1 (a := a) m 0 0 0 a a xmk xmk _ _ (by omega) (by decide) (by rw [if_pos rfl]; decide) hV1 (by
      intro q hq
      rw [uI_n _ _ (by omega), uI_n _ _ (by omega), uI_n _ _ (by omega), uI_n _ _ (by omega), uI_n _ _ (by omega), uI_n _ _ (by omega), uI_n _ _ (by omega), uI_n _ _ (by omega), uI_n _ _ (by omega), uI_n _ _ (by omega), uI_n _ _ (by omega), uI_n _ _ (by omega), uI_n _ _ (by omega), uI_n _ _ (by omega)]
      exact m4 q hq) (fun q hq => by rw [uI_n _ _ (by omega), uI_n _ _ (by omega)]; exact m5 q hq) (by rw [uI_n _ _ (by omega), uI_n _ _ (by omega), uI_n _ _ (by omega), uI_n _ _ (by omega), uI_n _ _ (by omega)]; exact m2) (by rw [uI_n _ _ (by omega), uI_n _ _ (by omega)]; exact m3) rfl rfl rfl rfl
    obtain ⟨r3, z⟩ := rof Ic2 r1
    refine ⟨r3, r2, Ic2, Ir2, _, _, fg_d_23 hG x1 h8 xa (fd_s_23 hG y1) z, fm_s hGr x2 xb y2, ?_⟩
    rcases y3 with y3 | ⟨y3, y4⟩
    · exact Or.inr y3
    · exact Or.inl (un _ _ (fun c q h => by rw [y3 c q (by omega) (by omega), uI_n _ _ (by omega), uI_n _ _ (by omega), uI_n _ _ (by omega), uI_n _ _ (by omega), uI_n _ _ (by omega)]) (fun c q h => by rw [y4 c q (by omega), uI_n _ _ (by omega), uI_n _ _ (by omega)]))
  · obtain ⟨r1, Ic2, y1, y3⟩ := fcl_23 (L := L) (xs := xs) (d := d + 1) (J := Jc1) (R := R) hG m1 m3 (a := a) j 0 0 (uI (uI (uI (uI (uI Ic1 1 1 0) 50 0 a) 50 1 a) 51 0 (1 <<< (a &&& 31))) 51 1 0) (by omega) (by decide) (by rw [uI_n _ _ (by omega), uI_n _ _ (by omega), uI_n _ _ (by omega), uI_n _ _ (by omega), uI_n _ _ (by omega)]; exact m2) (by rw [uI_n _ _ (by omega), uI_n _ _ (by omega), uI_n _ _ (by omega), uI_n _ _ (by omega), uI_n _ _ (by omega)]; exact m4)
    obtain ⟨r3, z⟩ := rof Ic2 r1
    exact ⟨r3, _, Ic2, _, _, _, fg_d_23 hG x1 h8 xa (fd_s_23 hG y1) z, fm_r hGr x2 xb, Or.inl (un _ _ (fun c q h => by rw [y3 c q (by omega) (by omega), uI_n _ _ (by omega), uI_n _ _ (by omega), uI_n _ _ (by omega), uI_n _ _ (by omega), uI_n _ _ (by omega)]) (fun _ _ _ => rfl))⟩
