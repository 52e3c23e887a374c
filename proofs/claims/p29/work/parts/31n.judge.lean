theorem VR_t_3 {np nm nn : Nat} {l : List (Nat × Nat)} {I I' Ir Ir' : Nat → Nat → Int32} (hV : VR_3 np nm nn l I Ir) (e1 : ∀ c q, 3 ≤ c → c ≤ 22 → I' c q = I c q) (e2 : ∀ c q, (88 ≤ c ∧ c ≤ 103) ∨ (c = 86 ∧ (q = 25 ∨ q = 26)) → Ir' c q = Ir c q) : VR_3 np nm nn l I' Ir' := by
  have x : ∀ c, 3 ≤ c → c ≤ 22 → I' c = I c := fun c h1 h2 => funext fun q => e1 c q h1 h2
  have y : ∀ c, 88 ≤ c → c ≤ 103 → Ir' c = Ir c := fun c h1 h2 => funext fun q => e2 c q (Or.inl ⟨h1, h2⟩)
  unfold VR_3 at *
  simp only [x 3 (by omega) (by omega), x 5 (by omega) (by omega), x 6 (by omega) (by omega), x 7 (by omega) (by omega), x 8 (by omega) (by omega), x 9 (by omega) (by omega), x 10 (by omega) (by omega), x 11 (by omega) (by omega), x 12 (by omega) (by omega), x 13 (by omega) (by omega), x 14 (by omega) (by omega), x 15 (by omega) (by omega), x 16 (by omega) (by omega), x 17 (by omega) (by omega), x 18 (by omega) (by omega), x 19 (by omega) (by omega), x 20 (by omega) (by omega), x 21 (by omega) (by omega), x 22 (by omega) (by omega), y 88 (by omega) (by omega), y 90 (by omega) (by omega), y 91 (by omega) (by omega), y 92 (by omega) (by omega), y 93 (by omega) (by omega), y 94 (by omega) (by omega), y 95 (by omega) (by omega), y 96 (by omega) (by omega), y 97 (by omega) (by omega), y 98 (by omega) (by omega), y 99 (by omega) (by omega), y 100 (by omega) (by omega), y 101 (by omega) (by omega), y 102 (by omega) (by omega), y 103 (by omega) (by omega), e2 86 25 (by omega), e2 86 26 (by omega)]
  exact hV
theorem inc_3 {L : Nat} {xs : Nat → Int32} {d : Nat} {R : Nat → Nat → Nat} {J : Nat → Nat → Int64} (hG : aGd R) {nn : Nat} (h4 : nn ≤ 4) : ∀ (f n : Nat) (i : Int32) (I : Nat → Nat → Int32), n + f = nn → i.toInt = n → (I 3 16).toInt = nn → (∀ q, q < n → I 47 q = I 11 q ∧ I 48 q = I 11 q) → ∃ I' : Nat → Nat → Int32, (∀ {v : Option Value} {h' : xH}, xEv L xs (d + 1) 56 55 [.ref 44, .ref 3, .int 0] [] (124, I', J, R) v h' → xEv L xs (d + 1) 56 7 [.ref 44, .ref 3, .int i] [] (124, I, J, R) v h') ∧ (∀ c q, c ≠ 47 → c ≠ 48 → I' c q = I c q) ∧ (∀ q, q < nn → I' 47 q = I' 11 q ∧ I' 48 q = I' 11 q) := by
  intro f
  induction f with
  | zero =>
    intro n i I hn hi q5 hd
    exact ⟨I, fun hk => da_b_3 hG (by omega) hk, fun _ _ _ _ => rfl, fun q hq => hd q (by omega)⟩
  | succ f ih =>
    intro n i I hn hi q5 hd
    have ec := clamp_s (i := i) (by omega)
    have ek : i.toNatClampNeg = n := by omega
    have hi' : (i + 1).toInt = (n + 1 : Nat) := by rw [i_add1 (by omega)]; omega
    have pt : ∀ (c : Nat) (I : Nat → Nat → Int32) (x : Int32), (∀ f : FieldType → Nat → Option xR, xarr (124, I, J, R) c f = f .int 4) → xEv L xs d 33 0 [.ref c, .int i, .int x] [] (124, I, J, R) none (124, uI I c i.toNatClampNeg x, J, R) := fun c I x ho => put_in (L := L) (xs := xs) (d := d) (I := I) (J := J) (R := R) (c := c) (n := 4) ho (by decide) (i := i) x (by omega) (by omega)
    have at1 : ∀ (I : Nat → Nat → Int32), xEv L xs d 39 0 [.ref 11, .int i] [] (124, I, J, R) (some (.int (I 11 i.toNatClampNeg))) (124, I, J, R) := by
      intro I
      have h4 := at_run (L := L) (xs := xs) (d := d) (h := (124, I, J, R)) (c := 11) (n := 4) (fun _ => rfl) (by decide) i
      rw [if_pos ⟨by omega, by omega⟩] at h4
      exact h4
    obtain ⟨I', x1, x2, x3⟩ := ih (n + 1) (i + 1) (uI (uI I 47 i.toNatClampNeg (I 11 i.toNatClampNeg)) 48 i.toNatClampNeg ((uI I 47 i.toNatClampNeg (I 11 i.toNatClampNeg)) 11 i.toNatClampNeg)) (by omega) hi' (by rw [uI_c _ _ _ (by decide), uI_c _ _ _ (by decide)]; exact q5) (by
      intro q hq
      rw [ek, uI_c (uI I 47 n (I 11 n)) _ _ (show (47 : Nat) ≠ 48 by decide), uI_c (uI I 47 n (I 11 n)) _ _ (show (11 : Nat) ≠ 48 by decide), uI_c I _ _ (show (11 : Nat) ≠ 47 by decide), uI_c I _ _ (show (11 : Nat) ≠ 47 by decide)]
      by_cases e : q = n
      · subst e
        rw [uI_s, uI_s]
        exact ⟨rfl, rfl⟩
      · rw [uI_n _ _ (fun z => e z.2), uI_n _ _ (fun z => e z.2), uI_n _ _ (fun z => e z.2)]
        exact hd q (by omega))
    refine ⟨I', fun hk => da_a_3 hG (by omega) (at1 I) (pt 47 _ _ (fun _ => rfl)) (at1 _) (pt 48 _ _ (fun _ => rfl)) (x1 hk), fun c q c1 c2 => ?_, x3⟩
    rw [x2 c q c1 c2, uI_c _ _ _ c2, uI_c _ _ _ c1]
theorem jlp_3 {L : Nat} {xs : Nat → Int32} {d d' : Nat} {Jc Jr : Nat → Nat → Int64} {R Rr : Nat → Nat → Nat} (hG : aGd R) (hGr : aGd Rr) {np nm nn : Nat} {l : List (Nat × Nat)} {m : Nat} (hm : m ≤ 225) : ∀ (f k : Nat) (i be : Int32) (Ic Ir : Nat → Nat → Int32), k + f = m → i.toInt = k → (be.toInt = if k = 0 then 0 else (Ir 104 (k - 1)).toInt) → VR_3 np nm nn l Ic Ir → jw_3 np nn Ic Ir → rwE m Ic Ir → (Ic 44 4).toInt = m → (Ir 86 30).toInt = m →
    ∃ (r1 r2 : Int32) (Ic' Ir' : Nat → Nat → Int32), xEv L xs (d + 3) 56 55 [.ref 44, .ref 3, .int i] [] (124, Ic, Jc, R) (some (.int r1)) (124, Ic', Jc, R) ∧ xEv L xs (d' + 4) 172 63 [.ref 86, .int be, .int i] [] (124, Ir, Jr, Rr) (some (.int r2)) (124, Ir', Jr, Rr) ∧ (∀ c q, c ≠ 47 → c ≠ 48 → Ic' c q = Ic c q) ∧ (∀ c q, c ≠ 106 → c ≠ 107 → Ir' c q = Ir c q) ∧ jw_3 np nn Ic' Ir' ∧ ((r1 = Ic 44 4 ∧ r2 = r1) ∨ (r1.toInt ≠ m ∧ r2 = -1 - r1)) := by
  intro f
  induction f with
  | zero =>
    intro k i be Ic Ir hk hi hb hV hW hE s1 s2
    exact ⟨_, _, Ic, Ir, da_e_3 hG (by omega), jr_e hGr (by omega), fun _ _ _ _ => rfl, fun _ _ _ _ => rfl, hW, Or.inl ⟨rfl, Int32.toInt_inj.mp (by omega)⟩⟩
  | succ f ih =>
    intro k i be Ic Ir hk hi hb hV hW hE s1 s2
    have eci := clamp_s (i := i) (by omega)
    have eki : i.toNatClampNeg = k := by omega
    have hi' : (i + 1).toInt = (k + 1 : Nat) := by rw [i_add1 (by omega)]; omega
    have at1 : ∀ (c : Nat), (∀ f : FieldType → Nat → Option xR, xarr (124, Ic, Jc, R) c f = f .int 225) → xEv L xs (d + 2) 39 0 [.ref c, .int i] [] (124, Ic, Jc, R) (some (.int (Ic c k))) (124, Ic, Jc, R) := by
      intro c ho
      have h4 := at_run (L := L) (xs := xs) (d := d + 2) (h := (124, Ic, Jc, R)) ho (by decide) i
      rw [if_pos ⟨by omega, by omega⟩, eki] at h4
      exact h4
    have a1 := at1 45 (fun _ => rfl)
    have a2 := at1 46 (fun _ => rfl)
    obtain ⟨e45, e46, -⟩ := hE k (by omega)
    rw [e45] at a1
    rw [e46] at a2
    rcases stp_3 (L := L) (xs := xs) (d := d) (d' := d') (Jc := Jc) (Jr := Jr) hG hGr hV hW hE (k := k) (by omega) hm hi hb with ⟨hc, hr⟩ | ⟨h1, Ic', Ir', h2, h3, h4, h5, h6⟩
    · have er : ((-1 : Int32) - i) = -1 - i := rfl
      refine ⟨i, -1 - i, Ic, Ir, ?_, jr_f hGr (by omega) hr, fun _ _ _ _ => rfl, fun _ _ _ _ => rfl, hW, Or.inr ⟨by omega, rfl⟩⟩
      rcases hc with hc | ⟨hc1, hc2⟩
      · exact da_t_3 hG (by omega) hc
      · exact da_f_3 hG (by omega) hc1 a1 a2 hc2
    · have hE' : rwE m Ic' Ir' := by
        intro q hq
        rw [h4 45 q (by decide) (by decide), h4 46 q (by decide) (by decide), h5 104 q (by decide) (by decide), h5 105 q (by decide) (by decide)]
        exact hE q hq
      obtain ⟨r1, r2, Ic2, Ir2, x1, x2, x3, x4, x5, x6⟩ := ih (k + 1) (i + 1) (Ir' 104 k) Ic' Ir' (by omega) hi' (by rw [if_neg (by omega), Nat.add_sub_cancel]) (VR_t_3 hV (fun c q c1 c2 => h4 c q (by omega) (by omega)) (fun c q hc => h5 c q (by omega) (by omega))) h6 hE' (by rw [h4 44 4 (by decide) (by decide)]; exact s1) (by rw [h5 86 30 (by decide) (by decide)]; exact s2)
      refine ⟨r1, r2, Ic2, Ir2, da_n_3 hG (by omega) h1 a1 a2 h2 x1, jr_n hGr (by omega) h3 (by omega) (by omega) (by rw [eki]; exact x2), fun c q c1 c2 => (x3 c q c1 c2).trans (h4 c q c1 c2), fun c q c1 c2 => (x4 c q c1 c2).trans (h5 c q c1 c2), x5, ?_⟩
      rw [h4 44 4 (by decide) (by decide)] at x6
      exact x6
theorem VR_t_23 {np nm nn : Nat} {l : List (Nat × Nat)} {I I' Ir Ir' : Nat → Nat → Int32} (hV : VR_23 np nm nn l I Ir) (e1 : ∀ c q, 23 ≤ c → c ≤ 42 → I' c q = I c q) (e2 : ∀ c q, (88 ≤ c ∧ c ≤ 103) ∨ (c = 86 ∧ (q = 25 ∨ q = 26)) → Ir' c q = Ir c q) : VR_23 np nm nn l I' Ir' := by
  have x : ∀ c, 23 ≤ c → c ≤ 42 → I' c = I c := fun c h1 h2 => funext fun q => e1 c q h1 h2
  have y : ∀ c, 88 ≤ c → c ≤ 103 → Ir' c = Ir c := fun c h1 h2 => funext fun q => e2 c q (Or.inl ⟨h1, h2⟩)
  unfold VR_23 at *
  simp only [x 23 (by omega) (by omega), x 25 (by omega) (by omega), x 26 (by omega) (by omega), x 27 (by omega) (by omega), x 28 (by omega) (by omega), x 29 (by omega) (by omega), x 30 (by omega) (by omega), x 31 (by omega) (by omega), x 32 (by omega) (by omega), x 33 (by omega) (by omega), x 34 (by omega) (by omega), x 35 (by omega) (by omega), x 36 (by omega) (by omega), x 37 (by omega) (by omega), x 38 (by omega) (by omega), x 39 (by omega) (by omega), x 40 (by omega) (by omega), x 41 (by omega) (by omega), x 42 (by omega) (by omega), y 88 (by omega) (by omega), y 90 (by omega) (by omega), y 91 (by omega) (by omega), y 92 (by omega) (by omega), y 93 (by omega) (by omega), y 94 (by omega) (by omega), y 95 (by omega) (by omega), y 96 (by omega) (by omega), y 97 (by omega) (by omega), y 98 (by omega) (by omega), y 99 (by omega) (by omega), y 100 (by omega) (by omega), y 101 (by omega) (by omega), y 102 (by omega) (by omega), y 103 (by omega) (by omega), e2 86 25 (by omega), e2 86 26 (by omega)]
  exact hV
theorem inc_23 {L : Nat} {xs : Nat → Int32} {d : Nat} {R : Nat → Nat → Nat} {J : Nat → Nat → Int64} (hG : aGd R) {nn : Nat} (h4 : nn ≤ 4) : ∀ (f n : Nat) (i : Int32) (I : Nat → Nat → Int32), n + f = nn → i.toInt = n → (I 23 16).toInt = nn → (∀ q, q < n → I 47 q = I 31 q ∧ I 48 q = I 31 q) → ∃ I' : Nat → Nat → Int32, (∀ {v : Option Value} {h' : xH}, xEv L xs (d + 1) 56 55 [.ref 44, .ref 23, .int 0] [] (124, I', J, R) v h' → xEv L xs (d + 1) 56 7 [.ref 44, .ref 23, .int i] [] (124, I, J, R) v h') ∧ (∀ c q, c ≠ 47 → c ≠ 48 → I' c q = I c q) ∧ (∀ q, q < nn → I' 47 q = I' 31 q ∧ I' 48 q = I' 31 q) := by
  intro f
  induction f with
  | zero =>
    intro n i I hn hi q5 hd
    exact ⟨I, fun hk => da_b_23 hG (by omega) hk, fun _ _ _ _ => rfl, fun q hq => hd q (by omega)⟩
  | succ f ih =>
    intro n i I hn hi q5 hd
    have ec := clamp_s (i := i) (by omega)
    have ek : i.toNatClampNeg = n := by omega
    have hi' : (i + 1).toInt = (n + 1 : Nat) := by rw [i_add1 (by omega)]; omega
    have pt : ∀ (c : Nat) (I : Nat → Nat → Int32) (x : Int32), (∀ f : FieldType → Nat → Option xR, xarr (124, I, J, R) c f = f .int 4) → xEv L xs d 33 0 [.ref c, .int i, .int x] [] (124, I, J, R) none (124, uI I c i.toNatClampNeg x, J, R) := fun c I x ho => put_in (L := L) (xs := xs) (d := d) (I := I) (J := J) (R := R) (c := c) (n := 4) ho (by decide) (i := i) x (by omega) (by omega)
    have at1 : ∀ (I : Nat → Nat → Int32), xEv L xs d 39 0 [.ref 31, .int i] [] (124, I, J, R) (some (.int (I 31 i.toNatClampNeg))) (124, I, J, R) := by
      intro I
      have h4 := at_run (L := L) (xs := xs) (d := d) (h := (124, I, J, R)) (c := 31) (n := 4) (fun _ => rfl) (by decide) i
      rw [if_pos ⟨by omega, by omega⟩] at h4
      exact h4
    obtain ⟨I', x1, x2, x3⟩ := ih (n + 1) (i + 1) (uI (uI I 47 i.toNatClampNeg (I 31 i.toNatClampNeg)) 48 i.toNatClampNeg ((uI I 47 i.toNatClampNeg (I 31 i.toNatClampNeg)) 31 i.toNatClampNeg)) (by omega) hi' (by rw [uI_c _ _ _ (by decide), uI_c _ _ _ (by decide)]; exact q5) (by
      intro q hq
      rw [ek, uI_c (uI I 47 n (I 31 n)) _ _ (show (47 : Nat) ≠ 48 by decide), uI_c (uI I 47 n (I 31 n)) _ _ (show (31 : Nat) ≠ 48 by decide), uI_c I _ _ (show (31 : Nat) ≠ 47 by decide), uI_c I _ _ (show (31 : Nat) ≠ 47 by decide)]
      by_cases e : q = n
      · subst e
        rw [uI_s, uI_s]
        exact ⟨rfl, rfl⟩
      · rw [uI_n _ _ (fun z => e z.2), uI_n _ _ (fun z => e z.2), uI_n _ _ (fun z => e z.2)]
        exact hd q (by omega))
    refine ⟨I', fun hk => da_a_23 hG (by omega) (at1 I) (pt 47 _ _ (fun _ => rfl)) (at1 _) (pt 48 _ _ (fun _ => rfl)) (x1 hk), fun c q c1 c2 => ?_, x3⟩
    rw [x2 c q c1 c2, uI_c _ _ _ c2, uI_c _ _ _ c1]
theorem jlp_23 {L : Nat} {xs : Nat → Int32} {d d' : Nat} {Jc Jr : Nat → Nat → Int64} {R Rr : Nat → Nat → Nat} (hG : aGd R) (hGr : aGd Rr) {np nm nn : Nat} {l : List (Nat × Nat)} {m : Nat} (hm : m ≤ 225) : ∀ (f k : Nat) (i be : Int32) (Ic Ir : Nat → Nat → Int32), k + f = m → i.toInt = k → (be.toInt = if k = 0 then 0 else (Ir 104 (k - 1)).toInt) → VR_23 np nm nn l Ic Ir → jw_23 np nn Ic Ir → rwE m Ic Ir → (Ic 44 4).toInt = m → (Ir 86 30).toInt = m →
    ∃ (r1 r2 : Int32) (Ic' Ir' : Nat → Nat → Int32), xEv L xs (d + 3) 56 55 [.ref 44, .ref 23, .int i] [] (124, Ic, Jc, R) (some (.int r1)) (124, Ic', Jc, R) ∧ xEv L xs (d' + 4) 172 63 [.ref 86, .int be, .int i] [] (124, Ir, Jr, Rr) (some (.int r2)) (124, Ir', Jr, Rr) ∧ (∀ c q, c ≠ 47 → c ≠ 48 → Ic' c q = Ic c q) ∧ (∀ c q, c ≠ 106 → c ≠ 107 → Ir' c q = Ir c q) ∧ jw_23 np nn Ic' Ir' ∧ ((r1 = Ic 44 4 ∧ r2 = r1) ∨ (r1.toInt ≠ m ∧ r2 = -1 - r1)) := by
  intro f
  induction f with
  | zero =>
    intro k i be Ic Ir hk hi hb hV hW hE s1 s2
    exact ⟨_, _, Ic, Ir, da_e_23 hG (by omega), jr_e hGr (by omega), fun _ _ _ _ => rfl, fun _ _ _ _ => rfl, hW, Or.inl ⟨rfl, Int32.toInt_inj.mp (by omega)⟩⟩
  | succ f ih =>
    intro k i be Ic Ir hk hi hb hV hW hE s1 s2
    have eci := clamp_s (i := i) (by omega)
    have eki : i.toNatClampNeg = k := by omega
    have hi' : (i + 1).toInt = (k + 1 : Nat) := by rw [i_add1 (by omega)]; omega
    have at1 : ∀ (c : Nat), (∀ f : FieldType → Nat → Option xR, xarr (124, Ic, Jc, R) c f = f .int 225) → xEv L xs (d + 2) 39 0 [.ref c, .int i] [] (124, Ic, Jc, R) (some (.int (Ic c k))) (124, Ic, Jc, R) := by
      intro c ho
      have h4 := at_run (L := L) (xs := xs) (d := d + 2) (h := (124, Ic, Jc, R)) ho (by decide) i
      rw [if_pos ⟨by omega, by omega⟩, eki] at h4
      exact h4
    have a1 := at1 45 (fun _ => rfl)
    have a2 := at1 46 (fun _ => rfl)
    obtain ⟨e45, e46, -⟩ := hE k (by omega)
    rw [e45] at a1
    rw [e46] at a2
    rcases stp_23 (L := L) (xs := xs) (d := d) (d' := d') (Jc := Jc) (Jr := Jr) hG hGr hV hW hE (k := k) (by omega) hm hi hb with ⟨hc, hr⟩ | ⟨h1, Ic', Ir', h2, h3, h4, h5, h6⟩
    · have er : ((-1 : Int32) - i) = -1 - i := rfl
      refine ⟨i, -1 - i, Ic, Ir, ?_, jr_f hGr (by omega) hr, fun _ _ _ _ => rfl, fun _ _ _ _ => rfl, hW, Or.inr ⟨by omega, rfl⟩⟩
      rcases hc with hc | ⟨hc1, hc2⟩
      · exact da_t_23 hG (by omega) hc
      · exact da_f_23 hG (by omega) hc1 a1 a2 hc2
    · have hE' : rwE m Ic' Ir' := by
        intro q hq
        rw [h4 45 q (by decide) (by decide), h4 46 q (by decide) (by decide), h5 104 q (by decide) (by decide), h5 105 q (by decide) (by decide)]
        exact hE q hq
      obtain ⟨r1, r2, Ic2, Ir2, x1, x2, x3, x4, x5, x6⟩ := ih (k + 1) (i + 1) (Ir' 104 k) Ic' Ir' (by omega) hi' (by rw [if_neg (by omega), Nat.add_sub_cancel]) (VR_t_23 hV (fun c q c1 c2 => h4 c q (by omega) (by omega)) (fun c q hc => h5 c q (by omega) (by omega))) h6 hE' (by rw [h4 44 4 (by decide) (by decide)]; exact s1) (by rw [h5 86 30 (by decide) (by decide)]; exact s2)
      refine ⟨r1, r2, Ic2, Ir2, da_n_23 hG (by omega) h1 a1 a2 h2 x1, jr_n hGr (by omega) h3 (by omega) (by omega) (by rw [eki]; exact x2), fun c q c1 c2 => (x3 c q c1 c2).trans (h4 c q c1 c2), fun c q c1 c2 => (x4 c q c1 c2).trans (h5 c q c1 c2), x5, ?_⟩
      rw [h4 44 4 (by decide) (by decide)] at x6
      exact x6
