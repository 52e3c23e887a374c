theorem VR_t_3 {np nm nn : Nat} {l : List (Nat × Nat)} {I I' Ir Ir' : Nat → Nat → Int32} (hV : VR_3 np nm nn l I Ir) (e1 : ∀ c q, 3 ≤ c → c ≤ 22 → I' c q = I c q) (e2 : ∀ c q, (88 ≤ c ∧ c ≤ 103) ∨ (c = 86 ∧ (q = 25 ∨ q = 26)) → Ir' c q = Ir c q) : VR_3 np nm nn l I' Ir' := by
  have x : ∀ c, 3 ≤ c → c ≤ 22 → I' c = I c := fun c h1 h2 => funext fun q => e1 c q h1 h2
  have y : ∀ c, 88 ≤ c → c ≤ 103 → Ir' c = Ir c := fun c h1 h2 => funext fun q => e2 c q (Or.inl ⟨h1, h2⟩)
  unfold VR_3 at *
  simp only [x 3 (by omega) (by omega), x 5 (by omega) (by omega), x 6 (by omega) (by omega), x 7 (by omega) (by omega), x 8 (by omega) (by omega), x 9 (by omega) (by omega), x 10 (by omega) (by omega), x 11 (by omega) (by omega), x 12 (by omega) (by omega), x 13 (by omega) (by omega), x 14 (by omega) (by omega), x 15 (by omega) (by omega), x 16 (by omega) (by omega), x 17 (by omega) (by omega), x 18 (by omega) (by omega), x 19 (by omega) (by omega), x 20 (by omega) (by omega), x 21 (by omega) (by omega), x 22 (by omega) (by omega), y 88 (by omega) (by omega), y 90 (by omega) (by omega), y 91 (by omega) (by omega), y 92 (by omega) (by omega), y 93 (by omega) (by omega), y 94 (by omega) (by omega), y 95 (by omega) (by omega), y 96 (by omega) (by omega), y 97 (by omega) (by omega), y 98 (by omega) (by omega), y 99 (by omega) (by omega), y 100 (by omega) (by omega), y 101 (by omega) (by omega), y 102 (by omega) (by omega), y 103 (by omega) (by omega), e2 86 25 (by omega), e2 86 26 (by omega)]
  exact hV
/-- soonest of both in two heaps, from time n on -/
theorem sol2_3 {L : Nat} {xs : Nat → Int32} {d d' : Nat} {I Ir : Nat → Nat → Int32} {J Jr : Nat → Nat → Int64} {R Rr : Nat → Nat → Nat} (hG : aGd R) (hGr : aGd Rr) {np nm nn : Nat} {l : List (Nat × Nat)} (hV : VR_3 np nm nn l I Ir) {b fr to tm : Int32} {z : Nat} (hto : to.toInt = z) (hz : z < np) : ∀ (f n : Nat) (x t : Int32) (w7 u7 u8 u9 : Value), n + f = l.length → t.toInt = n → tb x z = false →
    ∃ r : Int32, xEv L xs (d + 2) 66 9 [.ref 17, .int b, .int fr, .int to, .int tm, .int x, .int t, w7] [] (124, I, J, R) (some (.int r)) (124, I, J, R) ∧ xEv L xs (d' + 1) 185 9 [.ref 86, .int b, .int fr, .int to, .int tm, .int x, .int t, u7, u8, u9] [] (124, Ir, Jr, Rr) (some (.int (if r = -1 then Ir 86 26 else r))) (124, Ir, Jr, Rr) ∧ (r = -1 ∨ (0 ≤ r.toInt ∧ r.toInt < l.length)) := by
  have hV0 := hV
  obtain ⟨⟨p1, p2, p3⟩, p4, p5, p6, ⟨q1, q2⟩, ⟨q3, q4⟩, ⟨q5, q6⟩, q7, q8, q9, ⟨q10, q11⟩, q12, q13, q14, q15, -⟩ := hV
  intro f
  induction f with
  | zero =>
    intro n x t w7 u7 u8 u9 hn ht hx
    refine ⟨-1, sC_e_3 hG (by omega), ?_, Or.inl rfl⟩
    rw [if_pos rfl]
    exact sM_e hGr (by omega)
  | succ f ih =>
    intro n x t w7 u7 u8 u9 hn ht hx
    obtain ⟨m, hm, -, e1, e2, e3, e4, g1, g2, g3, g4, g5⟩ := tmz_3 hV0 (t := n) (by omega)
    have ec := clamp_s (i := t) (by omega)
    have ekt : t.toNatClampNeg = n := by omega
    have ecm := clamp_s (i := Ir 101 n) (by omega)
    have ekm : (Ir 101 n).toNatClampNeg = m := by omega
    have ht' : (t + 1).toInt = (n + 1 : Nat) := by rw [i_add1 (by omega)]; omega
    have at1 : ∀ c, (∀ g : FieldType → Nat → Option xR, xarr (124, I, J, R) c g = g .int 64) → ∀ d, xEv L xs d 39 0 [.ref c, .int t] [] (124, I, J, R) (some (.int (I c n))) (124, I, J, R) := by
      intro c ho d
      have h4 := at_run (L := L) (xs := xs) (d := d) (h := (124, I, J, R)) ho (by decide) t
      rw [if_pos ⟨by omega, by omega⟩, ekt] at h4
      exact h4
    have c1 := at1 20 (fun _ => rfl) (d + 1)
    have c2 := at1 21 (fun _ => rfl) (d + 1)
    have c3 := at1 22 (fun _ => rfl) d
    rw [e2] at c1
    rw [e3] at c2
    rw [e4] at c3
    have m1 := oA (L := L) (xs := xs) (d := d') (I := Ir) (J := Jr) (t := t) hGr (by omega) (by omega) (by rw [ekt]; omega) (by rw [ekt]; omega)
    have m2 := tA (L := L) (xs := xs) (d := d') (I := Ir) (J := Jr) (t := t) hGr (by omega) (by omega) (by rw [ekt]; omega) (by rw [ekt]; omega)
    rw [ekt, ekm] at m1 m2
    by_cases hs : (Ir 95 m).toInt = 10
    · have k1 := cS_1_3 (L := L) (xs := xs) (I := I) (J := J) hG c3 hs
      have k2 := iS_1 (L := L) (xs := xs) (d := d') (I := Ir) (J := Jr) (t := t) hGr (by omega) (by omega) (by rw [ekt]; omega) (by rw [ekt]; omega) (by rw [ekt, ekm]; exact hs)
      obtain ⟨a, ha⟩ := Int.eq_ofNat_of_zero_le g1
      obtain ⟨c, hc⟩ := Int.eq_ofNat_of_zero_le g3
      have hS := sG_c (b := b) (x := x) ha hc (by omega) (by omega)
      have hsh : ∀ y : Int32, (y >>> (to &&& 31)) &&& 1 = (if tb y z then 1 else 0) := fun y => tb_shr hto (by omega)
      by_cases hp : x &&& ((1 <<< (Ir 92 m &&& 31)) ||| (1 <<< (Ir 93 m &&& 31))) = 0
      · obtain ⟨r, x1, x2, x3⟩ := ih (n + 1) x (t + 1) (.int ((1 <<< (Ir 92 m &&& 31)) ||| (1 <<< (Ir 93 m &&& 31)))) (.int (Ir 92 m)) (.int (Ir 93 m)) (.int x) (by omega) ht' hx
        refine ⟨r, sC_0_3 hG (by omega) c1 c2 k1 (by rw [hp]; decide) x1, sM_0 hGr (by omega) k2 m1 m2 (sG_run hGr ha hc (by omega) (by omega) ?_), x3⟩
        rw [hS.1 hp]
        exact sM_y hGr (by rw [hsh, hx]; decide) x2
      · have hp' : (x &&& ((1 <<< (Ir 92 m &&& 31)) ||| (1 <<< (Ir 93 m &&& 31)))).toInt ≠ 0 := fun h => hp (Int32.toInt_inj.mp h)
        cases hy : tb (sG b x (Ir 92 m) (Ir 93 m) a c) z with
        | true =>
          refine ⟨t, sC_2_3 hG (by omega) c1 c2 k1 hp' (by rw [← hS.2 hp, hsh, hy]; decide), ?_, Or.inr ⟨by omega, by omega⟩⟩
          rw [if_neg (fun h => by rw [h] at ht; rw [show (-1 : Int32).toInt = -1 from by decide] at ht; omega)]
          exact sM_0 hGr (by omega) k2 m1 m2 (sG_run hGr ha hc (by omega) (by omega) (sM_x hGr (by rw [hsh, hy]; decide)))
        | false =>
          obtain ⟨r, x1, x2, x3⟩ := ih (n + 1) (sG b x (Ir 92 m) (Ir 93 m) a c) (t + 1) (.int ((1 <<< (Ir 92 m &&& 31)) ||| (1 <<< (Ir 93 m &&& 31)))) (.int (Ir 92 m)) (.int (Ir 93 m)) (.int x) (by omega) ht' hy
          refine ⟨r, sC_1_3 hG (by omega) c1 c2 k1 hp' (by rw [← hS.2 hp, hsh, hy]; decide) (by rw [← hS.2 hp]; exact x1), sM_0 hGr (by omega) k2 m1 m2 (sG_run hGr ha hc (by omega) (by omega) (sM_y hGr (by rw [hsh, hy]; decide) x2)), x3⟩
    · have k1 := cS_0_3 (L := L) (xs := xs) (I := I) (J := J) hG c3 hs
      have k2 := iS_0 (L := L) (xs := xs) (d := d') (I := Ir) (J := Jr) (t := t) hGr (by omega) (by omega) (by rw [ekt]; omega) (by rw [ekt]; omega) (by rw [ekt, ekm]; exact hs)
      obtain ⟨r, x1, x2, x3⟩ := ih (n + 1) x (t + 1) (.int ((1 <<< (Ir 92 m &&& 31)) ||| (1 <<< (Ir 93 m &&& 31)))) u7 u8 u9 (by omega) ht' hx
      exact ⟨r, sC_n_3 hG (by omega) c1 c2 k1 x1, sM_n hGr (by omega) k2 x2, x3⟩
theorem soo2_3 {L : Nat} {xs : Nat → Int32} {d d' : Nat} {I Ir : Nat → Nat → Int32} {J Jr : Nat → Nat → Int64} {R Rr : Nat → Nat → Nat} (hG : aGd R) (hGr : aGd Rr) {np nm nn : Nat} {l : List (Nat × Nat)} (hV : VR_3 np nm nn l I Ir) {b fr to tm : Int32} (h1 : 0 ≤ fr.toInt ∧ fr.toInt < np) (h2 : 0 ≤ to.toInt ∧ to.toInt < np) (h3 : 0 ≤ tm.toInt ∧ tm.toInt ≤ l.length) (h4 : fr.toInt ≠ to.toInt) :
    ∃ r : Int32, xEv L xs (d + 2) 66 0 [.ref 17, .int b, .int fr, .int to, .int tm, xmk, xmk, xmk] [] (124, I, J, R) (some (.int r)) (124, I, J, R) ∧ xEv L xs (d' + 1) 185 0 [.ref 86, .int b, .int fr, .int to, .int tm, xmk, xmk, xmk, xmk, xmk] [] (124, Ir, Jr, Rr) (some (.int (if r = -1 then Ir 86 26 else r))) (124, Ir, Jr, Rr) ∧ (r = -1 ∨ (0 ≤ r.toInt ∧ r.toInt < l.length)) := by
  have hp7 := hV.1.1
  obtain ⟨z, hz⟩ := Int.eq_ofNat_of_zero_le h2.1
  obtain ⟨y, hy⟩ := Int.eq_ofNat_of_zero_le h1.1
  obtain ⟨n, hn⟩ := Int.eq_ofNat_of_zero_le h3.1
  obtain ⟨r, x1, x2, x3⟩ := sol2_3 (L := L) (xs := xs) (d := d) (d' := d') (J := J) (Jr := Jr) hG hGr hV (b := b) (fr := fr) (to := to) (tm := tm) hz (by omega) (l.length - n) n (1 <<< (fr &&& 31)) tm xmk xmk xmk xmk (by omega) hn (by rw [tb_shl hy (by omega)]; exact decide_eq_false (by omega))
  exact ⟨r, sC_s_3 hG x1, sM_s hGr x2, x3⟩
theorem VR_t_23 {np nm nn : Nat} {l : List (Nat × Nat)} {I I' Ir Ir' : Nat → Nat → Int32} (hV : VR_23 np nm nn l I Ir) (e1 : ∀ c q, 23 ≤ c → c ≤ 42 → I' c q = I c q) (e2 : ∀ c q, (88 ≤ c ∧ c ≤ 103) ∨ (c = 86 ∧ (q = 25 ∨ q = 26)) → Ir' c q = Ir c q) : VR_23 np nm nn l I' Ir' := by
  have x : ∀ c, 23 ≤ c → c ≤ 42 → I' c = I c := fun c h1 h2 => funext fun q => e1 c q h1 h2
  have y : ∀ c, 88 ≤ c → c ≤ 103 → Ir' c = Ir c := fun c h1 h2 => funext fun q => e2 c q (Or.inl ⟨h1, h2⟩)
  unfold VR_23 at *
  simp only [x 23 (by omega) (by omega), x 25 (by omega) (by omega), x 26 (by omega) (by omega), x 27 (by omega) (by omega), x 28 (by omega) (by omega), x 29 (by omega) (by omega), x 30 (by omega) (by omega), x 31 (by omega) (by omega), x 32 (by omega) (by omega), x 33 (by omega) (by omega), x 34 (by omega) (by omega), x 35 (by omega) (by omega), x 36 (by omega) (by omega), x 37 (by omega) (by omega), x 38 (by omega) (by omega), x 39 (by omega) (by omega), x 40 (by omega) (by omega), x 41 (by omega) (by omega), x 42 (by omega) (by omega), y 88 (by omega) (by omega), y 90 (by omega) (by omega), y 91 (by omega) (by omega), y 92 (by omega) (by omega), y 93 (by omega) (by omega), y 94 (by omega) (by omega), y 95 (by omega) (by omega), y 96 (by omega) (by omega), y 97 (by omega) (by omega), y 98 (by omega) (by omega), y 99 (by omega) (by omega), y 100 (by omega) (by omega), y 101 (by omega) (by omega), y 102 (by omega) (by omega), y 103 (by omega) (by omega), e2 86 25 (by omega), e2 86 26 (by omega)]
  exact hV
/-- soonest of both in two heaps, from time n on -/
theorem sol2_23 {L : Nat} {xs : Nat → Int32} {d d' : Nat} {I Ir : Nat → Nat → Int32} {J Jr : Nat → Nat → Int64} {R Rr : Nat → Nat → Nat} (hG : aGd R) (hGr : aGd Rr) {np nm nn : Nat} {l : List (Nat × Nat)} (hV : VR_23 np nm nn l I Ir) {b fr to tm : Int32} {z : Nat} (hto : to.toInt = z) (hz : z < np) : ∀ (f n : Nat) (x t : Int32) (w7 u7 u8 u9 : Value), n + f = l.length → t.toInt = n → tb x z = false →
    ∃ r : Int32, xEv L xs (d + 2) 66 9 [.ref 37, .int b, .int fr, .int to, .int tm, .int x, .int t, w7] [] (124, I, J, R) (some (.int r)) (124, I, J, R) ∧ xEv L xs (d' + 1) 185 9 [.ref 86, .int b, .int fr, .int to, .int tm, .int x, .int t, u7, u8, u9] [] (124, Ir, Jr, Rr) (some (.int (if r = -1 then Ir 86 26 else r))) (124, Ir, Jr, Rr) ∧ (r = -1 ∨ (0 ≤ r.toInt ∧ r.toInt < l.length)) := by
  have hV0 := hV
  obtain ⟨⟨p1, p2, p3⟩, p4, p5, p6, ⟨q1, q2⟩, ⟨q3, q4⟩, ⟨q5, q6⟩, q7, q8, q9, ⟨q10, q11⟩, q12, q13, q14, q15, -⟩ := hV
  intro f
  induction f with
  | zero =>
    intro n x t w7 u7 u8 u9 hn ht hx
    refine ⟨-1, sC_e_23 hG (by omega), ?_, Or.inl rfl⟩
    rw [if_pos rfl]
    exact sM_e hGr (by omega)
  | succ f ih =>
    intro n x t w7 u7 u8 u9 hn ht hx
    obtain ⟨m, hm, -, e1, e2, e3, e4, g1, g2, g3, g4, g5⟩ := tmz_23 hV0 (t := n) (by omega)
    have ec := clamp_s (i := t) (by omega)
    have ekt : t.toNatClampNeg = n := by omega
    have ecm := clamp_s (i := Ir 101 n) (by omega)
    have ekm : (Ir 101 n).toNatClampNeg = m := by omega
    have ht' : (t + 1).toInt = (n + 1 : Nat) := by rw [i_add1 (by omega)]; omega
    have at1 : ∀ c, (∀ g : FieldType → Nat → Option xR, xarr (124, I, J, R) c g = g .int 64) → ∀ d, xEv L xs d 39 0 [.ref c, .int t] [] (124, I, J, R) (some (.int (I c n))) (124, I, J, R) := by
      intro c ho d
      have h4 := at_run (L := L) (xs := xs) (d := d) (h := (124, I, J, R)) ho (by decide) t
      rw [if_pos ⟨by omega, by omega⟩, ekt] at h4
      exact h4
    have c1 := at1 40 (fun _ => rfl) (d + 1)
    have c2 := at1 41 (fun _ => rfl) (d + 1)
    have c3 := at1 42 (fun _ => rfl) d
    rw [e2] at c1
    rw [e3] at c2
    rw [e4] at c3
    have m1 := oA (L := L) (xs := xs) (d := d') (I := Ir) (J := Jr) (t := t) hGr (by omega) (by omega) (by rw [ekt]; omega) (by rw [ekt]; omega)
    have m2 := tA (L := L) (xs := xs) (d := d') (I := Ir) (J := Jr) (t := t) hGr (by omega) (by omega) (by rw [ekt]; omega) (by rw [ekt]; omega)
    rw [ekt, ekm] at m1 m2
    by_cases hs : (Ir 95 m).toInt = 10
    · have k1 := cS_1_23 (L := L) (xs := xs) (I := I) (J := J) hG c3 hs
      have k2 := iS_1 (L := L) (xs := xs) (d := d') (I := Ir) (J := Jr) (t := t) hGr (by omega) (by omega) (by rw [ekt]; omega) (by rw [ekt]; omega) (by rw [ekt, ekm]; exact hs)
      obtain ⟨a, ha⟩ := Int.eq_ofNat_of_zero_le g1
      obtain ⟨c, hc⟩ := Int.eq_ofNat_of_zero_le g3
      have hS := sG_c (b := b) (x := x) ha hc (by omega) (by omega)
      have hsh : ∀ y : Int32, (y >>> (to &&& 31)) &&& 1 = (if tb y z then 1 else 0) := fun y => tb_shr hto (by omega)
      by_cases hp : x &&& ((1 <<< (Ir 92 m &&& 31)) ||| (1 <<< (Ir 93 m &&& 31))) = 0
      · obtain ⟨r, x1, x2, x3⟩ := ih (n + 1) x (t + 1) (.int ((1 <<< (Ir 92 m &&& 31)) ||| (1 <<< (Ir 93 m &&& 31)))) (.int (Ir 92 m)) (.int (Ir 93 m)) (.int x) (by omega) ht' hx
        refine ⟨r, sC_0_23 hG (by omega) c1 c2 k1 (by rw [hp]; decide) x1, sM_0 hGr (by omega) k2 m1 m2 (sG_run hGr ha hc (by omega) (by omega) ?_), x3⟩
        rw [hS.1 hp]
        exact sM_y hGr (by rw [hsh, hx]; decide) x2
      · have hp' : (x &&& ((1 <<< (Ir 92 m &&& 31)) ||| (1 <<< (Ir 93 m &&& 31)))).toInt ≠ 0 := fun h => hp (Int32.toInt_inj.mp h)
        cases hy : tb (sG b x (Ir 92 m) (Ir 93 m) a c) z with
        | true =>
          refine ⟨t, sC_2_23 hG (by omega) c1 c2 k1 hp' (by rw [← hS.2 hp, hsh, hy]; decide), ?_, Or.inr ⟨by omega, by omega⟩⟩
          rw [if_neg (fun h => by rw [h] at ht; rw [show (-1 : Int32).toInt = -1 from by decide] at ht; omega)]
          exact sM_0 hGr (by omega) k2 m1 m2 (sG_run hGr ha hc (by omega) (by omega) (sM_x hGr (by rw [hsh, hy]; decide)))
        | false =>
          obtain ⟨r, x1, x2, x3⟩ := ih (n + 1) (sG b x (Ir 92 m) (Ir 93 m) a c) (t + 1) (.int ((1 <<< (Ir 92 m &&& 31)) ||| (1 <<< (Ir 93 m &&& 31)))) (.int (Ir 92 m)) (.int (Ir 93 m)) (.int x) (by omega) ht' hy
          refine ⟨r, sC_1_23 hG (by omega) c1 c2 k1 hp' (by rw [← hS.2 hp, hsh, hy]; decide) (by rw [← hS.2 hp]; exact x1), sM_0 hGr (by omega) k2 m1 m2 (sG_run hGr ha hc (by omega) (by omega) (sM_y hGr (by rw [hsh, hy]; decide) x2)), x3⟩
    · have k1 := cS_0_23 (L := L) (xs := xs) (I := I) (J := J) hG c3 hs
      have k2 := iS_0 (L := L) (xs := xs) (d := d') (I := Ir) (J := Jr) (t := t) hGr (by omega) (by omega) (by rw [ekt]; omega) (by rw [ekt]; omega) (by rw [ekt, ekm]; exact hs)
      obtain ⟨r, x1, x2, x3⟩ := ih (n + 1) x (t + 1) (.int ((1 <<< (Ir 92 m &&& 31)) ||| (1 <<< (Ir 93 m &&& 31)))) u7 u8 u9 (by omega) ht' hx
      exact ⟨r, sC_n_23 hG (by omega) c1 c2 k1 x1, sM_n hGr (by omega) k2 x2, x3⟩
theorem soo2_23 {L : Nat} {xs : Nat → Int32} {d d' : Nat} {I Ir : Nat → Nat → Int32} {J Jr : Nat → Nat → Int64} {R Rr : Nat → Nat → Nat} (hG : aGd R) (hGr : aGd Rr) {np nm nn : Nat} {l : List (Nat × Nat)} (hV : VR_23 np nm nn l I Ir) {b fr to tm : Int32} (h1 : 0 ≤ fr.toInt ∧ fr.toInt < np) (h2 : 0 ≤ to.toInt ∧ to.toInt < np) (h3 : 0 ≤ tm.toInt ∧ tm.toInt ≤ l.length) (h4 : fr.toInt ≠ to.toInt) :
    ∃ r : Int32, xEv L xs (d + 2) 66 0 [.ref 37, .int b, .int fr, .int to, .int tm, xmk, xmk, xmk] [] (124, I, J, R) (some (.int r)) (124, I, J, R) ∧ xEv L xs (d' + 1) 185 0 [.ref 86, .int b, .int fr, .int to, .int tm, xmk, xmk, xmk, xmk, xmk] [] (124, Ir, Jr, Rr) (some (.int (if r = -1 then Ir 86 26 else r))) (124, Ir, Jr, Rr) ∧ (r = -1 ∨ (0 ≤ r.toInt ∧ r.toInt < l.length)) := by
  have hp7 := hV.1.1
  obtain ⟨z, hz⟩ := Int.eq_ofNat_of_zero_le h2.1
  obtain ⟨y, hy⟩ := Int.eq_ofNat_of_zero_le h1.1
  obtain ⟨n, hn⟩ := Int.eq_ofNat_of_zero_le h3.1
  obtain ⟨r, x1, x2, x3⟩ := sol2_23 (L := L) (xs := xs) (d := d) (d' := d') (J := J) (Jr := Jr) hG hGr hV (b := b) (fr := fr) (to := to) (tm := tm) hz (by omega) (l.length - n) n (1 <<< (fr &&& 31)) tm xmk xmk xmk xmk (by omega) hn (by rw [tb_shl hy (by omega)]; exact decide_eq_false (by omega))
  exact ⟨r, sC_s_23 hG x1, sM_s hGr x2, x3⟩
