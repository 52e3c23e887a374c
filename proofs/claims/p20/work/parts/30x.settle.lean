set_option maxRecDepth 20000 in
theorem tu_0 {L : Nat} {xs : Nat → Int32} {d : Nat} {I : Nat → Nat → Int32} {J : Nat → Nat → Int64} {R : Nat → Nat → Nat} {x : Int32} (hG : aGd R)  {v : Option Value} {h' : xH} (hk : xEv L xs d 144 2 [.ref 86, .int x, .int 0] [] (124, I, J, R) v h') : xEv L xs d 144 0 [.ref 86, .int x, xmk] [] (124, I, J, R) v h' := by
  refine ev_go 2 (pc1 := 2) (lv1 := [.ref 86, .int x, .int 0]) (st1 := []) (h1 := (124, I, J, R)) rfl ?_
  exact hk
set_option maxRecDepth 20000 in
theorem tu_a {L : Nat} {xs : Nat → Int32} {d : Nat} {I : Nat → Nat → Int32} {J : Nat → Nat → Int64} {R : Nat → Nat → Nat} {x n : Int32} (hG : aGd R) (b1 : n.toInt ≥ (I 86 26).toInt) : xEv L xs d 144 2 [.ref 86, .int x, .int n] [] (124, I, J, R) (some (.int n)) (124, I, J, R) := by
  refine ev_go 3 (pc1 := 7) (lv1 := [.ref 86, .int x, .int n]) (st1 := [.int (I 86 26), .int n]) (h1 := (124, I, J, R)) rfl ?_
  refine ev_br (b1 := true) rfl rfl (xcd_ge (x := n) (y := (I 86 26)) (by first | exact b1 | omega)) ?_
  refine ev_go 1 (pc1 := 27) (lv1 := [.ref 86, .int x, .int n]) (st1 := [.int n]) (h1 := (124, I, J, R)) rfl ?_
  exact ev_ret rfl rfl
set_option maxRecDepth 20000 in
theorem tu_b {L : Nat} {xs : Nat → Int32} {d : Nat} {I : Nat → Nat → Int32} {J : Nat → Nat → Int64} {R : Nat → Nat → Nat} {x n : Int32} (hG : aGd R) (b1 : n.toInt < (I 86 26).toInt) (n1 : 0 ≤ n.toInt) (m1 : n.toInt < 64) (b2 : (I 102 n.toNatClampNeg).toInt > x.toInt) : xEv L xs d 144 2 [.ref 86, .int x, .int n] [] (124, I, J, R) (some (.int n)) (124, I, J, R) := by
  refine ev_go 3 (pc1 := 7) (lv1 := [.ref 86, .int x, .int n]) (st1 := [.int (I 86 26), .int n]) (h1 := (124, I, J, R)) rfl ?_
  refine ev_br (b1 := false) rfl rfl (xcd_nge (x := n) (y := (I 86 26)) (by first | exact b1 | omega)) ?_
  refine ev_go 1 (pc1 := 11) (lv1 := [.ref 86, .int x, .int n]) (st1 := [.ref 86]) (h1 := (124, I, J, R)) rfl ?_
  refine ev_gf (c := 86) (t := 102) (X := R 86 28) rfl rfl (fun _ => rfl) rfl (hG 86 28 102 rfl rfl) ?_
  refine ev_go 1 (pc1 := 15) (lv1 := [.ref 86, .int x, .int n]) (st1 := [.int n, .ref 102]) (h1 := (124, I, J, R)) rfl ?_
  refine ev_ild (n := 64) rfl rfl (fun _ => rfl) n1 m1 ?_
  refine ev_go 1 (pc1 := 17) (lv1 := [.ref 86, .int x, .int n]) (st1 := [.int x, .int (I 102 n.toNatClampNeg)]) (h1 := (124, I, J, R)) rfl ?_
  refine ev_br (b1 := true) rfl rfl (xcd_gt (x := (I 102 n.toNatClampNeg)) (y := x) (by first | exact b2 | omega)) ?_
  refine ev_go 1 (pc1 := 27) (lv1 := [.ref 86, .int x, .int n]) (st1 := [.int n]) (h1 := (124, I, J, R)) rfl ?_
  exact ev_ret rfl rfl
set_option maxRecDepth 20000 in
theorem tu_c {L : Nat} {xs : Nat → Int32} {d : Nat} {I : Nat → Nat → Int32} {J : Nat → Nat → Int64} {R : Nat → Nat → Nat} {x n : Int32} (hG : aGd R) (b1 : n.toInt < (I 86 26).toInt) (n1 : 0 ≤ n.toInt) (m1 : n.toInt < 64) (b2 : (I 102 n.toNatClampNeg).toInt ≤ x.toInt) {v : Option Value} {h' : xH} (hk : xEv L xs d 144 2 [.ref 86, .int x, .int (n + 1)] [] (124, I, J, R) v h') : xEv L xs d 144 2 [.ref 86, .int x, .int n] [] (124, I, J, R) v h' := by
  refine ev_go 3 (pc1 := 7) (lv1 := [.ref 86, .int x, .int n]) (st1 := [.int (I 86 26), .int n]) (h1 := (124, I, J, R)) rfl ?_
  refine ev_br (b1 := false) rfl rfl (xcd_nge (x := n) (y := (I 86 26)) (by first | exact b1 | omega)) ?_
  refine ev_go 1 (pc1 := 11) (lv1 := [.ref 86, .int x, .int n]) (st1 := [.ref 86]) (h1 := (124, I, J, R)) rfl ?_
  refine ev_gf (c := 86) (t := 102) (X := R 86 28) rfl rfl (fun _ => rfl) rfl (hG 86 28 102 rfl rfl) ?_
  refine ev_go 1 (pc1 := 15) (lv1 := [.ref 86, .int x, .int n]) (st1 := [.int n, .ref 102]) (h1 := (124, I, J, R)) rfl ?_
  refine ev_ild (n := 64) rfl rfl (fun _ => rfl) n1 m1 ?_
  refine ev_go 1 (pc1 := 17) (lv1 := [.ref 86, .int x, .int n]) (st1 := [.int x, .int (I 102 n.toNatClampNeg)]) (h1 := (124, I, J, R)) rfl ?_
  refine ev_br (b1 := false) rfl rfl (xcd_ngt (x := (I 102 n.toNatClampNeg)) (y := x) (by first | exact b2 | omega)) ?_
  refine ev_go 2 (pc1 := 2) (lv1 := [.ref 86, .int x, .int (n + 1)]) (st1 := []) (h1 := (124, I, J, R)) rfl ?_
  exact hk
theorem tu_run {L : Nat} {xs : Nat → Int32} {d : Nat} {I : Nat → Nat → Int32} {J : Nat → Nat → Int64} {R : Nat → Nat → Nat} (hG : aGd R) {l : List (Nat × Nat)} (hs : l.Pairwise (fun p q => p.1 ≤ q.1)) (hl : (I 86 26).toInt = l.length) (h64 : l.length ≤ 64) (hh : ∀ (t a b : Nat), l[t]? = some (a, b) → (I 102 t).toInt = a) (x : Int32) : ∃ y : Int32, xEv L xs d 144 0 [.ref 86, .int x, xmk] [] (124, I, J, R) (some (.int y)) (124, I, J, R) ∧ y.toInt = dlN l x.toInt := by
  have loop : ∀ (q : Nat) (n : Int32) (n' : Nat), l.length - n' = q → n.toInt = n' → n' ≤ l.length → dlN (l.take n') x.toInt = n' → ∃ y : Int32, xEv L xs d 144 2 [.ref 86, .int x, .int n] [] (124, I, J, R) (some (.int y)) (124, I, J, R) ∧ y.toInt = dlN l x.toInt := by
    intro q
    induction q with
    | zero =>
      intro n n' h1 h2 h3 h4
      have e : n' = l.length := by omega
      rw [e, List.take_length] at h4
      exact ⟨n, tu_a hG (by omega), by omega⟩
    | succ q ih =>
      intro n n' h1 h2 h3 h4
      have ei := i_add1 (x := n) (by omega)
      have ec := clamp_s (i := n) (by omega)
      have e2 : n.toNatClampNeg = n' := by omega
      have ht : n' < l.length := by omega
      have hx : l[n']? = some ((l[n']).1, (l[n']).2) := List.getElem?_eq_getElem ht
      have hs2 := dlN_s (x := x.toInt) hx
      have hv := hh _ _ _ hx
      by_cases g : (I 102 n').toInt ≤ x.toInt
      · rw [if_pos (by omega)] at hs2
        obtain ⟨y, r, e⟩ := ih (n + 1) (n' + 1) (by omega) (by omega) (by omega) (by omega)
        exact ⟨y, tu_c hG (by omega) (by omega) (by omega) (by rw [e2]; omega) r, e⟩
      · refine ⟨n, tu_b hG (by omega) (by omega) (by omega) (by rw [e2]; omega), ?_⟩
        rw [dl_split n', dl_srt hs hx (by omega)]
        omega
  obtain ⟨y, r, e⟩ := loop _ 0 0 rfl rfl (Nat.zero_le _) (by rw [List.take_zero]; rfl)
  exact ⟨y, tu_0 hG r, e⟩
/-- the deadlines -/
theorem sd_t {L : Nat} {xs : Nat → Int32} {d : Nat} {J : Nat → Nat → Int64} {R : Nat → Nat → Nat} (hG : aGd R) {I0 : Nat → Nat → Int32} {l : List (Nat × Nat)} {nn : Nat} (hs : l.Pairwise (fun p q => p.1 ≤ q.1)) (hn : (I0 88 2).toInt = nn) (hn4 : nn ≤ 4) (hl : (I0 86 26).toInt = l.length) (h64 : l.length ≤ 64) (hh : ∀ (t a b : Nat), l[t]? = some (a, b) → (I0 102 t).toInt = a) : ∀ (q : Nat) (n : Int32) (n' : Nat) (I : Nat → Nat → Int32) (w : Value), nn - n' = q → n.toInt = n' → n' ≤ nn → (∀ c k, c ≠ 103 → I c k = I0 c k) → (∀ i, i < n' → (I 103 i).toInt = dlN l (I0 98 i).toInt) → ∃ (I' : Nat → Nat → Int32) (n2 : Int32) (w' : Value), (∀ vv h', xEv L xs (d + 1) 142 219 [.ref 86, .int n2, w'] [] (124, I', J, R) vv h' → xEv L xs (d + 1) 142 187 [.ref 86, .int n, w] [] (124, I, J, R) vv h') ∧ (∀ c k, c ≠ 103 → I' c k = I0 c k) ∧ ∀ i, i < nn → (I' 103 i).toInt = dlN l (I0 98 i).toInt := by
  intro q
  induction q with
  | zero =>
    intro n n' I w h1 h2 h3 hI hD
    have e : n' = nn := by omega
    subst e
    exact ⟨I, n, w, fun vv h' hk => st_g hG (by rw [hI 88 2 (by decide)]; omega) hk, hI, hD⟩
  | succ q ih =>
    intro n n' I w h1 h2 h3 hI hD
    have ei := i_add1 (x := n) (by omega)
    have ec := clamp_s (i := n) (by omega)
    have e2 : n.toNatClampNeg = n' := by omega
    obtain ⟨y, r, ey⟩ := tu_run (L := L) (xs := xs) (d := d) (I := I) (J := J) hG hs (by rw [hI 86 26 (by decide)]; exact hl) h64 (fun t a b h => by rw [hI 102 t (by decide)]; exact hh t a b h) (I 98 n.toNatClampNeg)
    obtain ⟨I', n2, w', r2, f1, f2⟩ := ih (n + 1) (n' + 1) (uI I 103 n.toNatClampNeg y) w (by omega) (by omega) (by omega) (fun c k hc => by rw [uI_c _ _ _ hc]; exact hI c k hc) (by
      intro i hi
      rw [e2]
      by_cases g : i = n'
      · rw [g, uI_s, ey, e2, hI 98 n' (by decide)]
      · rw [uI_n _ _ (fun z => g z.2)]
        exact hD i (by omega))
    exact ⟨I', n2, w', fun vv h' hk => st_h hG (by rw [hI 88 2 (by decide)]; omega) (by omega) (by omega) r hG (by omega) (by omega) (r2 vv h' hk), f1, f2⟩
/-- a village settled -/
def SE (I : Nat → Nat → Int32) (l : List (Nat × Nat)) (nn : Nat) (I' : Nat → Nat → Int32) : Prop := (∀ c q, ¬ (88 ≤ c ∧ c ≤ 103) → ¬ (119 ≤ c ∧ c ≤ 123) → ¬ (c = 86 ∧ (q = 26 ∨ q = 35 ∨ q = 51)) → I' c q = I c q) ∧ (∀ k, k < 3 → I' 88 k = I 88 (3 + k)) ∧ (∀ k, k < 7 → I' 90 k = I 90 (7 + k) ∧ I' 91 k = I 91 (7 + k)) ∧ (∀ k, k < 16 → I' 92 k = I 92 (16 + k) ∧ I' 93 k = I 93 (16 + k) ∧ I' 94 k = I 94 (16 + k) ∧ I' 95 k = I 95 (16 + k)) ∧ (∀ k, k < 4 → I' 96 k = I 96 (4 + k) ∧ I' 97 k = I 97 (4 + k) ∧ I' 98 k = I 98 (4 + k) ∧ I' 99 k = I 99 (4 + k) ∧ I' 100 k = I 100 (4 + k)) ∧ (I' 86 26).toInt = l.length ∧ (∀ (t a b : Nat), l[t]? = some (a, b) → (I' 102 t).toInt = a ∧ (I' 101 t).toInt = b) ∧ (∀ i, i < nn → (I' 103 i).toInt = dlN l (I 98 (4 + i)).toInt) ∧ (∀ k, k < 7 → I' 119 k = 3 ∧ I' 120 k = 0) ∧ I' 121 0 = 0 ∧ (∀ k, k < 3 → I' 123 k = 0) ∧ I' 86 35 = 0 ∧ I' 86 51 = 0 ∧ (∀ q, 0 < q → I' 121 q = I 121 q)
theorem set_run {L : Nat} {xs : Nat → Int32} {d : Nat} {I : Nat → Nat → Int32} {J : Nat → Nat → Int64} {R : Nat → Nat → Nat} (hG : aGd R) {M nn : Nat} (hM : (I 88 4).toInt = M) (hM2 : M ≤ 16) (hn : (I 88 5).toInt = nn) (hn4 : nn ≤ 4) {g : Nat → Int} (hg : ∀ k, k < M → g k = (I 94 (16 + k)).toInt) : ∃ I' : Nat → Nat → Int32, xEv L xs (d + 1) 142 0 [.ref 86, xmk, xmk] [] (124, I, J, R) none (124, I', J, R) ∧ SE I (tOut g M 96) nn I' := by
  obtain ⟨I1, c1, f1, k1⟩ := comes_run (L := L) (xs := xs) (d := d) (I := I) (J := J) (R := R) 88 6 3 3 (by decide) rfl rfl (by decide) (by decide)
  obtain ⟨I2, c2, f2, k2⟩ := comes_run (L := L) (xs := xs) (d := d) (I := I1) (J := J) (R := R) 90 14 7 7 (by decide) rfl rfl (by decide) (by decide)
  obtain ⟨I3, c3, f3, k3⟩ := comes_run (L := L) (xs := xs) (d := d) (I := I2) (J := J) (R := R) 91 14 7 7 (by decide) rfl rfl (by decide) (by decide)
  obtain ⟨I4, c4, f4, k4⟩ := comes_run (L := L) (xs := xs) (d := d) (I := I3) (J := J) (R := R) 92 32 16 16 (by decide) rfl rfl (by decide) (by decide)
  obtain ⟨I5, c5, f5, k5⟩ := comes_run (L := L) (xs := xs) (d := d) (I := I4) (J := J) (R := R) 93 32 16 16 (by decide) rfl rfl (by decide) (by decide)
  obtain ⟨I6, c6, f6, k6⟩ := comes_run (L := L) (xs := xs) (d := d) (I := I5) (J := J) (R := R) 94 32 16 16 (by decide) rfl rfl (by decide) (by decide)
  obtain ⟨I7, c7, f7, k7⟩ := comes_run (L := L) (xs := xs) (d := d) (I := I6) (J := J) (R := R) 95 32 16 16 (by decide) rfl rfl (by decide) (by decide)
  obtain ⟨I8, c8, f8, k8⟩ := comes_run (L := L) (xs := xs) (d := d) (I := I7) (J := J) (R := R) 96 8 4 4 (by decide) rfl rfl (by decide) (by decide)
  obtain ⟨I9, c9, f9, k9⟩ := comes_run (L := L) (xs := xs) (d := d) (I := I8) (J := J) (R := R) 97 8 4 4 (by decide) rfl rfl (by decide) (by decide)
  obtain ⟨I10, c10, f10, k10⟩ := comes_run (L := L) (xs := xs) (d := d) (I := I9) (J := J) (R := R) 98 8 4 4 (by decide) rfl rfl (by decide) (by decide)
  obtain ⟨I11, c11, f11, k11⟩ := comes_run (L := L) (xs := xs) (d := d) (I := I10) (J := J) (R := R) 99 8 4 4 (by decide) rfl rfl (by decide) (by decide)
  obtain ⟨I12, c12, f12, k12⟩ := comes_run (L := L) (xs := xs) (d := d) (I := I11) (J := J) (R := R) 100 8 4 4 (by decide) rfl rfl (by decide) (by decide)
  have g88 : ∀ k, k < 3 → I12 88 k = I 88 (3 + k) := fun k hk => by rw [f12 88 k (by decide), f11 88 k (by decide), f10 88 k (by decide), f9 88 k (by decide), f8 88 k (by decide), f7 88 k (by decide), f6 88 k (by decide), f5 88 k (by decide), f4 88 k (by decide), f3 88 k (by decide), f2 88 k (by decide), k1, if_pos hk]
  have g90 : ∀ k, k < 7 → I12 90 k = I 90 (7 + k) := fun k hk => by rw [f12 90 k (by decide), f11 90 k (by decide), f10 90 k (by decide), f9 90 k (by decide), f8 90 k (by decide), f7 90 k (by decide), f6 90 k (by decide), f5 90 k (by decide), f4 90 k (by decide), f3 90 k (by decide), k2, if_pos hk, f1 90 _ (by decide)]
  have g91 : ∀ k, k < 7 → I12 91 k = I 91 (7 + k) := fun k hk => by rw [f12 91 k (by decide), f11 91 k (by decide), f10 91 k (by decide), f9 91 k (by decide), f8 91 k (by decide), f7 91 k (by decide), f6 91 k (by decide), f5 91 k (by decide), f4 91 k (by decide), k3, if_pos hk, f2 91 _ (by decide), f1 91 _ (by decide)]
  have g92 : ∀ k, k < 16 → I12 92 k = I 92 (16 + k) := fun k hk => by rw [f12 92 k (by decide), f11 92 k (by decide), f10 92 k (by decide), f9 92 k (by decide), f8 92 k (by decide), f7 92 k (by decide), f6 92 k (by decide), f5 92 k (by decide), k4, if_pos hk, f3 92 _ (by decide), f2 92 _ (by decide), f1 92 _ (by decide)]
  have g93 : ∀ k, k < 16 → I12 93 k = I 93 (16 + k) := fun k hk => by rw [f12 93 k (by decide), f11 93 k (by decide), f10 93 k (by decide), f9 93 k (by decide), f8 93 k (by decide), f7 93 k (by decide), f6 93 k (by decide), k5, if_pos hk, f4 93 _ (by decide), f3 93 _ (by decide), f2 93 _ (by decide), f1 93 _ (by decide)]
  have g94 : ∀ k, k < 16 → I12 94 k = I 94 (16 + k) := fun k hk => by rw [f12 94 k (by decide), f11 94 k (by decide), f10 94 k (by decide), f9 94 k (by decide), f8 94 k (by decide), f7 94 k (by decide), k6, if_pos hk, f5 94 _ (by decide), f4 94 _ (by decide), f3 94 _ (by decide), f2 94 _ (by decide), f1 94 _ (by decide)]
  have g95 : ∀ k, k < 16 → I12 95 k = I 95 (16 + k) := fun k hk => by rw [f12 95 k (by decide), f11 95 k (by decide), f10 95 k (by decide), f9 95 k (by decide), f8 95 k (by decide), k7, if_pos hk, f6 95 _ (by decide), f5 95 _ (by decide), f4 95 _ (by decide), f3 95 _ (by decide), f2 95 _ (by decide), f1 95 _ (by decide)]
  have g96 : ∀ k, k < 4 → I12 96 k = I 96 (4 + k) := fun k hk => by rw [f12 96 k (by decide), f11 96 k (by decide), f10 96 k (by decide), f9 96 k (by decide), k8, if_pos hk, f7 96 _ (by decide), f6 96 _ (by decide), f5 96 _ (by decide), f4 96 _ (by decide), f3 96 _ (by decide), f2 96 _ (by decide), f1 96 _ (by decide)]
  have g97 : ∀ k, k < 4 → I12 97 k = I 97 (4 + k) := fun k hk => by rw [f12 97 k (by decide), f11 97 k (by decide), f10 97 k (by decide), k9, if_pos hk, f8 97 _ (by decide), f7 97 _ (by decide), f6 97 _ (by decide), f5 97 _ (by decide), f4 97 _ (by decide), f3 97 _ (by decide), f2 97 _ (by decide), f1 97 _ (by decide)]
  have g98 : ∀ k, k < 4 → I12 98 k = I 98 (4 + k) := fun k hk => by rw [f12 98 k (by decide), f11 98 k (by decide), k10, if_pos hk, f9 98 _ (by decide), f8 98 _ (by decide), f7 98 _ (by decide), f6 98 _ (by decide), f5 98 _ (by decide), f4 98 _ (by decide), f3 98 _ (by decide), f2 98 _ (by decide), f1 98 _ (by decide)]
  have g99 : ∀ k, k < 4 → I12 99 k = I 99 (4 + k) := fun k hk => by rw [f12 99 k (by decide), k11, if_pos hk, f10 99 _ (by decide), f9 99 _ (by decide), f8 99 _ (by decide), f7 99 _ (by decide), f6 99 _ (by decide), f5 99 _ (by decide), f4 99 _ (by decide), f3 99 _ (by decide), f2 99 _ (by decide), f1 99 _ (by decide)]
  have g100 : ∀ k, k < 4 → I12 100 k = I 100 (4 + k) := fun k hk => by rw [k12, if_pos hk, f11 100 _ (by decide), f10 100 _ (by decide), f9 100 _ (by decide), f8 100 _ (by decide), f7 100 _ (by decide), f6 100 _ (by decide), f5 100 _ (by decide), f4 100 _ (by decide), f3 100 _ (by decide), f2 100 _ (by decide), f1 100 _ (by decide)]
  have gf : ∀ c q, ¬ (88 ≤ c ∧ c ≤ 100) → I12 c q = I c q := fun c q hc => by rw [f12 c q (by omega), f11 c q (by omega), f10 c q (by omega), f9 c q (by omega), f8 c q (by omega), f7 c q (by omega), f6 c q (by omega), f5 c q (by omega), f4 c q (by omega), f3 c q (by omega), f2 c q (by omega), f1 c q (by omega)]
  have e4 : (uI I12 86 26 0) 88 1 = I 88 4 := g88 1 (by decide)
  obtain ⟨J1, w1, a1, a2⟩ := so_t (L := L) (xs := xs) (d := d + 1) (J := J) (R := R) hG (I0 := uI I12 86 26 0) (M := M) (by rw [e4]; exact hM) hM2 _ rfl _ 0 0 (uI I12 86 26 0) xmk rfl rfl (by decide) ⟨fun _ _ _ _ => rfl, rfl, fun t a b h => by cases h⟩
  have el : tOut (fun k => ((uI I12 86 26 0) 94 k).toInt) M 96 = tOut g M 96 := tOut_e (fun k hk => by rw [hg k hk, ← g94 k (by omega)]; rfl) 96
  rw [el] at a1
  obtain ⟨b0, b1, b2⟩ := a1
  have b0' : ∀ c q, ¬ (101 ≤ c ∧ c ≤ 102) → ¬ (c = 86 ∧ q = 26) → J1 c q = I12 c q := fun c q h1 h2 => by rw [b0 c q h1 h2, uI_n _ _ h2]
  obtain ⟨J2, n2, w2, r1, r2, r3⟩ := sd_t (L := L) (xs := xs) (d := d) (J := J) (R := R) hG (I0 := J1) (l := tOut g M 96) (nn := nn) (tOut_p 96) (by rw [b0' 88 2 (by omega) (by omega), g88 2 (by decide)]; exact hn) hn4 b1 (tOut_64 hM2) (fun t a b h => (b2 t a b h).1) _ 0 0 J1 w1 rfl rfl (Nat.zero_le _) (fun _ _ _ => rfl) (fun i h => absurd h (by omega))
  have rr : ∀ c q, c ≠ 103 → ¬ (101 ≤ c ∧ c ≤ 102) → ¬ (c = 86 ∧ q = 26) → J2 c q = I12 c q := fun c q h0 h1 h2 => by rw [r2 c q h0, b0' c q h1 h2]
  refine ⟨_, st_0 hG c1 c2 c3 c4 c5 c6 c7 c8 c9 c10 c11 c12 (a2 _ _ (r1 _ _ (st_t hG))), ?_, ?_, ?_, ?_, ?_, ?_, ?_, ?_, ?_, rfl, ?_, rfl, rfl, ?_⟩
  · intro c q h1 h2 h3
    rw [uI_n _ _ (by omega), uI_n _ _ (by omega), uI_n _ _ (by omega), uI_n _ _ (by omega), uI_n _ _ (by omega), uI_n _ _ (by omega), uI_n _ _ (by omega), uI_n _ _ (by omega), uI_n _ _ (by omega), uI_n _ _ (by omega), uI_n _ _ (by omega), uI_n _ _ (by omega), uI_n _ _ (by omega), uI_n _ _ (by omega), uI_n _ _ (by omega), uI_n _ _ (by omega), uI_n _ _ (by omega), uI_n _ _ (by omega), uI_n _ _ (by omega), uI_n _ _ (by omega)]
    rw [rr c q (by omega) (by omega) (by omega), gf c q (by omega)]
  · intro k hk
    exact (rr 88 k (by decide) (by omega) (by omega)).trans (g88 k hk)
  · intro k hk
    exact ⟨(rr 90 k (by decide) (by omega) (by omega)).trans (g90 k hk), (rr 91 k (by decide) (by omega) (by omega)).trans (g91 k hk)⟩
  · intro k hk
    exact ⟨(rr 92 k (by decide) (by omega) (by omega)).trans (g92 k hk), (rr 93 k (by decide) (by omega) (by omega)).trans (g93 k hk), (rr 94 k (by decide) (by omega) (by omega)).trans (g94 k hk), (rr 95 k (by decide) (by omega) (by omega)).trans (g95 k hk)⟩
  · intro k hk
    exact ⟨(rr 96 k (by decide) (by omega) (by omega)).trans (g96 k hk), (rr 97 k (by decide) (by omega) (by omega)).trans (g97 k hk), (rr 98 k (by decide) (by omega) (by omega)).trans (g98 k hk), (rr 99 k (by decide) (by omega) (by omega)).trans (g99 k hk), (rr 100 k (by decide) (by omega) (by omega)).trans (g100 k hk)⟩
  · show (J2 86 26).toInt = _
    rw [r2 86 26 (by decide)]
    exact b1
  · intro t a b h
    show (J2 102 t).toInt = _ ∧ (J2 101 t).toInt = _
    rw [r2 102 t (by decide), r2 101 t (by decide)]
    exact b2 t a b h
  · intro i hi
    show (J2 103 i).toInt = _
    rw [r3 i hi, b0' 98 i (by omega) (by omega), g98 i (by omega)]
  · intro k hk
    match k, hk with
    | 0, _ => exact ⟨rfl, rfl⟩
    | 1, _ => exact ⟨rfl, rfl⟩
    | 2, _ => exact ⟨rfl, rfl⟩
    | 3, _ => exact ⟨rfl, rfl⟩
    | 4, _ => exact ⟨rfl, rfl⟩
    | 5, _ => exact ⟨rfl, rfl⟩
    | 6, _ => exact ⟨rfl, rfl⟩
    | k + 7, h => omega
  · intro k hk
    match k, hk with
    | 0, _ => rfl
    | 1, _ => rfl
    | 2, _ => rfl
    | k + 3, h => omega
  · intro q hq
    rw [uI_n _ _ (by omega), uI_n _ _ (by omega), uI_n _ _ (by omega), uI_n _ _ (by omega), uI_n _ _ (by omega), uI_n _ _ (by omega), uI_n _ _ (by omega), uI_n _ _ (by omega), uI_n _ _ (by omega), uI_n _ _ (by omega), uI_n _ _ (by omega), uI_n _ _ (by omega), uI_n _ _ (by omega), uI_n _ _ (by omega), uI_n _ _ (by omega), uI_n _ _ (by omega), uI_n _ _ (by omega), uI_n _ _ (by omega), uI_n _ _ (by omega), uI_n _ _ (by omega)]
    rw [rr 121 q (by decide) (by omega) (by omega), gf 121 q (by omega)]
