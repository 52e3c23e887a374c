/-- how many times have an hour not behind x -/
def dlN (l : List (Nat × Nat)) (x : Int) : Nat := (l.filter fun p => decide ((p.1 : Int) ≤ x)).length
theorem dlN_s {l : List (Nat × Nat)} {t a b : Nat} {x : Int} (h : l[t]? = some (a, b)) : dlN (l.take (t + 1)) x = dlN (l.take t) x + (if (a : Int) ≤ x then 1 else 0) := by
  unfold dlN
  rw [List.take_add_one, h, List.filter_append, List.length_append]
  show _ + (List.filter _ [(a, b)]).length = _
  by_cases g : (a : Int) ≤ x
  · rw [if_pos g, List.filter_cons_of_pos (by exact decide_eq_true g)]; rfl
  · rw [if_neg g, List.filter_cons_of_neg (by exact fun z => g (of_decide_eq_true z))]; rfl
theorem dlN_le {l : List (Nat × Nat)} {t : Nat} {x : Int} : dlN (l.take t) x ≤ t := Nat.le_trans (List.length_filter_le _ _) (List.length_take_le t l)
theorem dl_split {l : List (Nat × Nat)} (n : Nat) {x : Int} : dlN l x = dlN (l.take n) x + dlN (l.drop n) x := by
  unfold dlN
  rw [← List.length_append, ← List.filter_append, List.take_append_drop]
theorem dl_0 {l : List (Nat × Nat)} {x : Int} (h : ∀ p ∈ l, x < (p.1 : Int)) : dlN l x = 0 := by
  unfold dlN
  rw [List.filter_eq_nil_iff.mpr (fun p hp z => by have := h p hp; have := of_decide_eq_true z; omega)]
  rfl
theorem tIn_f {f : Nat → Int} {U : Nat} : ∀ m (p : Nat × Nat), p ∈ tIn f U m → p.1 = U ∧ p.2 < m
  | 0, p, h => by cases h
  | m + 1, p, h => by
    have h : p ∈ tIn f U m ++ (if f m = ((U % 24 : Nat) : Int) then [(U, m)] else []) := h
    rcases List.mem_append.mp h with g | g
    · have := tIn_f m p g
      omega
    · split at g
      · have e := List.mem_singleton.mp g
        subst e
        exact ⟨rfl, by omega⟩
      · cases g
theorem tOut_f {f : Nat → Int} {M : Nat} : ∀ U (p : Nat × Nat), p ∈ tOut f M U → p.1 < U ∧ p.2 < M
  | 0, p, h => by cases h
  | U + 1, p, h => by
    have h : p ∈ tOut f M U ++ tIn f U M := h
    rcases List.mem_append.mp h with g | g
    · have := tOut_f U p g
      omega
    · have := tIn_f M p g
      omega
theorem tIn_p {f : Nat → Int} {U : Nat} : ∀ m, (tIn f U m).Pairwise (fun p q => p.1 ≤ q.1)
  | 0 => List.Pairwise.nil
  | m + 1 => by
    show (tIn f U m ++ (if f m = ((U % 24 : Nat) : Int) then [(U, m)] else [])).Pairwise (fun p q => p.1 ≤ q.1)
    refine List.pairwise_append.mpr ⟨tIn_p m, ?_, ?_⟩
    · split
      · exact List.pairwise_singleton _ _
      · exact List.Pairwise.nil
    · intro a ha b hb
      have h1 := tIn_f m a ha
      split at hb
      · have e := List.mem_singleton.mp hb
        subst e
        exact Nat.le_of_eq h1.1
      · cases hb
theorem tOut_p {f : Nat → Int} {M : Nat} : ∀ U, (tOut f M U).Pairwise (fun p q => p.1 ≤ q.1)
  | 0 => List.Pairwise.nil
  | U + 1 => by
    refine List.pairwise_append.mpr ⟨tOut_p U, tIn_p M, ?_⟩
    intro a ha b hb
    have h1 := tOut_f U a ha
    have h2 := tIn_f M b hb
    show a.1 ≤ b.1
    omega
theorem tIn_e {f g : Nat → Int} {U : Nat} : ∀ m, (∀ k, k < m → f k = g k) → tIn f U m = tIn g U m
  | 0, _ => rfl
  | m + 1, h => by
    show tIn f U m ++ (if f m = ((U % 24 : Nat) : Int) then [(U, m)] else []) = tIn g U m ++ (if g m = ((U % 24 : Nat) : Int) then [(U, m)] else [])
    rw [tIn_e m (fun k hk => h k (by omega)), h m (by omega)]
theorem tOut_e {f g : Nat → Int} {M : Nat} (h : ∀ k, k < M → f k = g k) : ∀ U, tOut f M U = tOut g M U
  | 0 => rfl
  | U + 1 => by
    show tOut f M U ++ tIn f U M = tOut g M U ++ tIn g U M
    rw [tOut_e h U, tIn_e M h]
theorem tOut_64 {f : Nat → Int} {M : Nat} (h : M ≤ 16) : (tOut f M 96).length ≤ 64 := by
  rw [tOut_l]
  have := cOut_96 f M
  omega
theorem dl_srt {l : List (Nat × Nat)} (hs : l.Pairwise (fun p q => p.1 ≤ q.1)) {n a b : Nat} {x : Int} (h : l[n]? = some (a, b)) (hx : x < (a : Int)) : dlN (l.drop n) x = 0 := by
  refine dl_0 fun p hp => ?_
  obtain ⟨k, hk⟩ := List.mem_iff_getElem?.mp hp
  rw [List.getElem?_drop] at hk
  obtain ⟨h1, h2⟩ := List.getElem?_eq_some_iff.mp h
  obtain ⟨h3, h4⟩ := List.getElem?_eq_some_iff.mp hk
  by_cases g : k = 0
  · subst g
    rw [Nat.add_zero, h] at hk
    have e := Option.some.inj hk
    rw [← e]
    exact hx
  · have := List.pairwise_iff_getElem.mp hs n (n + k) h1 h3 (by omega)
    rw [h2, h4] at this
    have h5 : a ≤ p.1 := this
    omega
set_option maxRecDepth 20000 in
theorem ut_0_3 {L : Nat} {xs : Nat → Int32} {d : Nat} {I : Nat → Nat → Int32} {J : Nat → Nat → Int64} {R : Nat → Nat → Nat} {x : Int32} (hG : aGd R)  {v : Option Value} {h' : xH} (hk : xEv L xs d 45 4 [.ref 17, .int x, .int 0, .int 0] [] (124, I, J, R) v h') : xEv L xs d 45 0 [.ref 17, .int x, xmk, xmk] [] (124, I, J, R) v h' := by
  refine ev_go 4 (pc1 := 4) (lv1 := [.ref 17, .int x, .int 0, .int 0]) (st1 := []) (h1 := (124, I, J, R)) rfl ?_
  exact hk
set_option maxRecDepth 20000 in
theorem ut_a_3 {L : Nat} {xs : Nat → Int32} {d : Nat} {I : Nat → Nat → Int32} {J : Nat → Nat → Int64} {R : Nat → Nat → Nat} {x f t : Int32} (hG : aGd R) (b1 : t.toInt ≥ (I 17 5).toInt) : xEv L xs d 45 4 [.ref 17, .int x, .int f, .int t] [] (124, I, J, R) (some (.int f)) (124, I, J, R) := by
  refine ev_go 3 (pc1 := 9) (lv1 := [.ref 17, .int x, .int f, .int t]) (st1 := [.int (I 17 5), .int t]) (h1 := (124, I, J, R)) rfl ?_
  refine ev_br (b1 := true) rfl rfl (xcd_ge (x := t) (y := (I 17 5)) (by first | exact b1 | omega)) ?_
  refine ev_go 1 (pc1 := 34) (lv1 := [.ref 17, .int x, .int f, .int t]) (st1 := [.int f]) (h1 := (124, I, J, R)) rfl ?_
  exact ev_ret rfl rfl
set_option maxRecDepth 20000 in
theorem ut_b_3 {L : Nat} {xs : Nat → Int32} {d : Nat} {I : Nat → Nat → Int32} {J : Nat → Nat → Int64} {R : Nat → Nat → Nat} {x f t y : Int32} (hG : aGd R) (b1 : t.toInt < (I 17 5).toInt) (c1 : xEv L xs d 39 0 [.ref 18, .int t] [] (124, I, J, R) (some (.int y)) (124, I, J, R)) (b2 : y.toInt > x.toInt) {v : Option Value} {h' : xH} (hk : xEv L xs (d + 1) 45 4 [.ref 17, .int x, .int f, .int (t + 1)] [] (124, I, J, R) v h') : xEv L xs (d + 1) 45 4 [.ref 17, .int x, .int f, .int t] [] (124, I, J, R) v h' := by
  refine ev_go 3 (pc1 := 9) (lv1 := [.ref 17, .int x, .int f, .int t]) (st1 := [.int (I 17 5), .int t]) (h1 := (124, I, J, R)) rfl ?_
  refine ev_br (b1 := false) rfl rfl (xcd_nge (x := t) (y := (I 17 5)) (by first | exact b1 | omega)) ?_
  refine ev_go 1 (pc1 := 13) (lv1 := [.ref 17, .int x, .int f, .int t]) (st1 := [.ref 17]) (h1 := (124, I, J, R)) rfl ?_
  refine ev_gf (c := 17) (t := 18) (X := R 17 0) rfl rfl (fun _ => rfl) rfl (hG 17 0 18 rfl rfl) ?_
  refine ev_go 1 (pc1 := 17) (lv1 := [.ref 17, .int x, .int f, .int t]) (st1 := [.int t, .ref 18]) (h1 := (124, I, J, R)) rfl ?_
  refine ev_call (v1 := (some (.int y))) (h1 := (124, I, J, R)) rfl rfl c1 ?_
  refine ev_go 1 (pc1 := 21) (lv1 := [.ref 17, .int x, .int f, .int t]) (st1 := [.int x, .int y]) (h1 := (124, I, J, R)) rfl ?_
  refine ev_br (b1 := true) rfl rfl (xcd_gt (x := y) (y := x) (by first | exact b2 | omega)) ?_
  refine ev_go 2 (pc1 := 4) (lv1 := [.ref 17, .int x, .int f, .int (t + 1)]) (st1 := []) (h1 := (124, I, J, R)) rfl ?_
  exact hk
set_option maxRecDepth 20000 in
theorem ut_c_3 {L : Nat} {xs : Nat → Int32} {d : Nat} {I : Nat → Nat → Int32} {J : Nat → Nat → Int64} {R : Nat → Nat → Nat} {x f t y : Int32} (hG : aGd R) (b1 : t.toInt < (I 17 5).toInt) (c1 : xEv L xs d 39 0 [.ref 18, .int t] [] (124, I, J, R) (some (.int y)) (124, I, J, R)) (b2 : y.toInt ≤ x.toInt) {v : Option Value} {h' : xH} (hk : xEv L xs (d + 1) 45 4 [.ref 17, .int x, .int (f + 1), .int (t + 1)] [] (124, I, J, R) v h') : xEv L xs (d + 1) 45 4 [.ref 17, .int x, .int f, .int t] [] (124, I, J, R) v h' := by
  refine ev_go 3 (pc1 := 9) (lv1 := [.ref 17, .int x, .int f, .int t]) (st1 := [.int (I 17 5), .int t]) (h1 := (124, I, J, R)) rfl ?_
  refine ev_br (b1 := false) rfl rfl (xcd_nge (x := t) (y := (I 17 5)) (by first | exact b1 | omega)) ?_
  refine ev_go 1 (pc1 := 13) (lv1 := [.ref 17, .int x, .int f, .int t]) (st1 := [.ref 17]) (h1 := (124, I, J, R)) rfl ?_
  refine ev_gf (c := 17) (t := 18) (X := R 17 0) rfl rfl (fun _ => rfl) rfl (hG 17 0 18 rfl rfl) ?_
  refine ev_go 1 (pc1 := 17) (lv1 := [.ref 17, .int x, .int f, .int t]) (st1 := [.int t, .ref 18]) (h1 := (124, I, J, R)) rfl ?_
  refine ev_call (v1 := (some (.int y))) (h1 := (124, I, J, R)) rfl rfl c1 ?_
  refine ev_go 1 (pc1 := 21) (lv1 := [.ref 17, .int x, .int f, .int t]) (st1 := [.int x, .int y]) (h1 := (124, I, J, R)) rfl ?_
  refine ev_br (b1 := false) rfl rfl (xcd_ngt (x := y) (y := x) (by first | exact b2 | omega)) ?_
  refine ev_go 3 (pc1 := 4) (lv1 := [.ref 17, .int x, .int (f + 1), .int (t + 1)]) (st1 := []) (h1 := (124, I, J, R)) rfl ?_
  exact hk
theorem ut_run_3 {L : Nat} {xs : Nat → Int32} {d : Nat} {I : Nat → Nat → Int32} {J : Nat → Nat → Int64} {R : Nat → Nat → Nat} (hG : aGd R) {l : List (Nat × Nat)} (hl : (I 17 5).toInt = l.length) (h64 : l.length ≤ 64) (hh : ∀ (t a b : Nat), l[t]? = some (a, b) → (I 18 t).toInt = a) (x : Int32) : ∃ y : Int32, xEv L xs (d + 1) 45 0 [.ref 17, .int x, xmk, xmk] [] (124, I, J, R) (some (.int y)) (124, I, J, R) ∧ y.toInt = dlN l x.toInt := by
  have loop : ∀ (q : Nat) (t f : Int32) (t' : Nat), l.length - t' = q → t.toInt = t' → t' ≤ l.length → f.toInt = dlN (l.take t') x.toInt → ∃ y : Int32, xEv L xs (d + 1) 45 4 [.ref 17, .int x, .int f, .int t] [] (124, I, J, R) (some (.int y)) (124, I, J, R) ∧ y.toInt = dlN l x.toInt := by
    intro q
    induction q with
    | zero =>
      intro t f t' h1 h2 h3 h4
      have e : t' = l.length := by omega
      rw [e, List.take_length] at h4
      exact ⟨f, ut_a_3 hG (by omega), h4⟩
    | succ q ih =>
      intro t f t' h1 h2 h3 h4
      have ei := i_add1 (x := t) (by omega)
      have ec := clamp_s (i := t) (by omega)
      have e2 : t.toNatClampNeg = t' := by omega
      have ht : t' < l.length := by omega
      have hx : l[t']? = some ((l[t']).1, (l[t']).2) := List.getElem?_eq_getElem ht
      have hs := dlN_s (x := x.toInt) hx
      have hle := dlN_le (l := l) (t := t') (x := x.toInt)
      have hv := hh _ _ _ hx
      have at1 := at_run (L := L) (xs := xs) (d := d) (h := (124, I, J, R)) (c := 18) (n := 64) (fun _ => rfl) (by decide) t
      rw [if_pos ⟨by omega, by omega⟩, e2] at at1
      by_cases g : (I 18 t').toInt ≤ x.toInt
      · have ef := i_add1 (x := f) (by omega)
        rw [if_pos (by omega)] at hs
        obtain ⟨y, r, e⟩ := ih (t + 1) (f + 1) (t' + 1) (by omega) (by omega) (by omega) (by rw [hs]; omega)
        exact ⟨y, ut_c_3 hG (by omega) at1 g r, e⟩
      · rw [if_neg (by omega)] at hs
        obtain ⟨y, r, e⟩ := ih (t + 1) f (t' + 1) (by omega) (by omega) (by omega) (by rw [hs]; omega)
        exact ⟨y, ut_b_3 hG (by omega) at1 (by show (I 18 t').toInt > _; omega) r, e⟩
  obtain ⟨y, r, e⟩ := loop _ 0 0 0 rfl rfl (Nat.zero_le _) (by rw [List.take_zero]; rfl)
  exact ⟨y, ut_0_3 hG r, e⟩
/-- the deadlines -/
theorem td_3 {L : Nat} {xs : Nat → Int32} {d : Nat} {J : Nat → Nat → Int64} {R : Nat → Nat → Nat} (hG : aGd R) {I0 : Nat → Nat → Int32} {l : List (Nat × Nat)} {nn : Nat} (hn : (I0 3 16).toInt = nn) (hn4 : nn ≤ 4) (hl : (I0 17 5).toInt = l.length) (h64 : l.length ≤ 64) (hh : ∀ (t a b : Nat), l[t]? = some (a, b) → (I0 18 t).toInt = a) : ∀ (q : Nat) (n : Int32) (n' : Nat) (I : Nat → Nat → Int32) (w : Value), nn - n' = q → n.toInt = n' → n' ≤ nn → (∀ c k, c ≠ 16 → I c k = I0 c k) → (∀ i, i < n' → (I 16 i).toInt = dlN l (I0 13 i).toInt) → ∃ I' : Nat → Nat → Int32, xEv L xs (d + 2) 43 80 [.ref 3, .int n, w] [] (124, I, J, R) none (124, I', J, R) ∧ (∀ c k, c ≠ 16 → I' c k = I0 c k) ∧ ∀ i, i < nn → (I' 16 i).toInt = dlN l (I0 13 i).toInt := by
  intro q
  induction q with
  | zero =>
    intro n n' I w h1 h2 h3 hI hD
    have e : n' = nn := by omega
    subst e
    exact ⟨I, lt_f_3 hG (by rw [hI 3 16 (by decide)]; omega), hI, hD⟩
  | succ q ih =>
    intro n n' I w h1 h2 h3 hI hD
    have ei := i_add1 (x := n) (by omega)
    have ec := clamp_s (i := n) (by omega)
    have e2 : n.toNatClampNeg = n' := by omega
    have at1 := at_run (L := L) (xs := xs) (d := d + 1) (h := (124, I, J, R)) (c := 13) (n := 4) (fun _ => rfl) (by decide) n
    rw [if_pos ⟨by omega, by omega⟩, e2] at at1
    obtain ⟨y, r, ey⟩ := ut_run_3 (L := L) (xs := xs) (d := d) (I := I) (J := J) hG (l := l) (by rw [hI 17 5 (by decide)]; exact hl) h64 (fun t a b h => by rw [hI 18 t (by decide)]; exact hh t a b h) (I 13 n')
    obtain ⟨I', r2, f1, f2⟩ := ih (n + 1) (n' + 1) (uI I 16 n.toNatClampNeg y) w (by omega) (by omega) (by omega) (fun c k hc => by rw [uI_c _ _ _ hc]; exact hI c k hc) (by
      intro i hi
      rw [e2]
      by_cases g : i = n'
      · rw [g, uI_s, ey, hI 13 n' (by decide)]
      · rw [uI_n _ _ (fun z => g z.2)]
        exact hD i (by omega))
    exact ⟨I', lt_g_3 hG (by rw [hI 3 16 (by decide)]; omega) at1 r hG (put_in (fun _ => rfl) (by decide) y (by omega) (by omega)) r2, f1, f2⟩
/-- the times laid -/
def LT_3 (I : Nat → Nat → Int32) (l : List (Nat × Nat)) (nn : Nat) (I' : Nat → Nat → Int32) : Prop := (∀ c q, ¬ (18 ≤ c ∧ c ≤ 22) → ¬ (c = 17 ∧ q = 5) → c ≠ 16 → I' c q = I c q) ∧ (I' 17 5).toInt = l.length ∧ (∀ (t a b : Nat), l[t]? = some (a, b) → (I' 18 t).toInt = a ∧ (I' 19 t).toInt = b ∧ I' 20 t = I 7 b ∧ I' 21 t = I 8 b ∧ I' 22 t = I 10 b) ∧ ∀ i, i < nn → (I' 16 i).toInt = dlN l (I 13 i).toInt
theorem lay_3 {L : Nat} {xs : Nat → Int32} {d : Nat} {I : Nat → Nat → Int32} {J : Nat → Nat → Int64} {R : Nat → Nat → Nat} (hG : aGd R) {M nn : Nat} (hM : (I 3 15).toInt = M) (hM2 : M ≤ 16) (hn : (I 3 16).toInt = nn) (hn4 : nn ≤ 4) (hz : (I 17 5).toInt = 0) : ∃ I' : Nat → Nat → Int32, xEv L xs (d + 2) 43 0 [.ref 3, xmk, xmk] [] (124, I, J, R) none (124, I', J, R) ∧ LT_3 I (tOut (fun k => (I 9 k).toInt) M 96) nn I' := by
  obtain ⟨I1, w1, a1, a2⟩ := to_3 (L := L) (xs := xs) (d := d) (J := J) (R := R) hG hM hM2 _ rfl _ 0 0 I xmk rfl rfl (by decide) ⟨fun _ _ _ _ => rfl, hz, fun t a b h => by cases h⟩
  obtain ⟨b0, b1, b2⟩ := a1
  obtain ⟨I2, r1, r2, r3⟩ := td_3 (L := L) (xs := xs) (d := d) (J := J) (R := R) hG (I0 := I1) (nn := nn) (by rw [b0 3 16 (by omega) (by omega)]; exact hn) hn4 b1 (tOut_64 hM2) (fun t a b h => (b2 t a b h).1) _ 0 0 I1 w1 rfl rfl (Nat.zero_le _) (fun _ _ _ => rfl) (fun i h => absurd h (by omega))
  refine ⟨I2, ev_go 2 (pc1 := 2) (lv1 := [.ref 3, .int 0, xmk]) (st1 := []) (h1 := (124, I, J, R)) rfl (a2 _ _ r1), fun c q g1 g2 g3 => by rw [r2 c q g3, b0 c q g1 g2], by rw [r2 17 5 (by decide)]; exact b1, fun t a b h => ?_, fun i hi => ?_⟩
  · rw [r2 18 t (by decide), r2 19 t (by decide), r2 20 t (by decide), r2 21 t (by decide), r2 22 t (by decide)]
    exact b2 t a b h
  · rw [r3 i hi, b0 13 i (by omega) (by omega)]
set_option maxRecDepth 20000 in
theorem ut_0_23 {L : Nat} {xs : Nat → Int32} {d : Nat} {I : Nat → Nat → Int32} {J : Nat → Nat → Int64} {R : Nat → Nat → Nat} {x : Int32} (hG : aGd R)  {v : Option Value} {h' : xH} (hk : xEv L xs d 45 4 [.ref 37, .int x, .int 0, .int 0] [] (124, I, J, R) v h') : xEv L xs d 45 0 [.ref 37, .int x, xmk, xmk] [] (124, I, J, R) v h' := by
  refine ev_go 4 (pc1 := 4) (lv1 := [.ref 37, .int x, .int 0, .int 0]) (st1 := []) (h1 := (124, I, J, R)) rfl ?_
  exact hk
set_option maxRecDepth 20000 in
theorem ut_a_23 {L : Nat} {xs : Nat → Int32} {d : Nat} {I : Nat → Nat → Int32} {J : Nat → Nat → Int64} {R : Nat → Nat → Nat} {x f t : Int32} (hG : aGd R) (b1 : t.toInt ≥ (I 37 5).toInt) : xEv L xs d 45 4 [.ref 37, .int x, .int f, .int t] [] (124, I, J, R) (some (.int f)) (124, I, J, R) := by
  refine ev_go 3 (pc1 := 9) (lv1 := [.ref 37, .int x, .int f, .int t]) (st1 := [.int (I 37 5), .int t]) (h1 := (124, I, J, R)) rfl ?_
  refine ev_br (b1 := true) rfl rfl (xcd_ge (x := t) (y := (I 37 5)) (by first | exact b1 | omega)) ?_
  refine ev_go 1 (pc1 := 34) (lv1 := [.ref 37, .int x, .int f, .int t]) (st1 := [.int f]) (h1 := (124, I, J, R)) rfl ?_
  exact ev_ret rfl rfl
set_option maxRecDepth 20000 in
theorem ut_b_23 {L : Nat} {xs : Nat → Int32} {d : Nat} {I : Nat → Nat → Int32} {J : Nat → Nat → Int64} {R : Nat → Nat → Nat} {x f t y : Int32} (hG : aGd R) (b1 : t.toInt < (I 37 5).toInt) (c1 : xEv L xs d 39 0 [.ref 38, .int t] [] (124, I, J, R) (some (.int y)) (124, I, J, R)) (b2 : y.toInt > x.toInt) {v : Option Value} {h' : xH} (hk : xEv L xs (d + 1) 45 4 [.ref 37, .int x, .int f, .int (t + 1)] [] (124, I, J, R) v h') : xEv L xs (d + 1) 45 4 [.ref 37, .int x, .int f, .int t] [] (124, I, J, R) v h' := by
  refine ev_go 3 (pc1 := 9) (lv1 := [.ref 37, .int x, .int f, .int t]) (st1 := [.int (I 37 5), .int t]) (h1 := (124, I, J, R)) rfl ?_
  refine ev_br (b1 := false) rfl rfl (xcd_nge (x := t) (y := (I 37 5)) (by first | exact b1 | omega)) ?_
  refine ev_go 1 (pc1 := 13) (lv1 := [.ref 37, .int x, .int f, .int t]) (st1 := [.ref 37]) (h1 := (124, I, J, R)) rfl ?_
  refine ev_gf (c := 37) (t := 38) (X := R 37 0) rfl rfl (fun _ => rfl) rfl (hG 37 0 38 rfl rfl) ?_
  refine ev_go 1 (pc1 := 17) (lv1 := [.ref 37, .int x, .int f, .int t]) (st1 := [.int t, .ref 38]) (h1 := (124, I, J, R)) rfl ?_
  refine ev_call (v1 := (some (.int y))) (h1 := (124, I, J, R)) rfl rfl c1 ?_
  refine ev_go 1 (pc1 := 21) (lv1 := [.ref 37, .int x, .int f, .int t]) (st1 := [.int x, .int y]) (h1 := (124, I, J, R)) rfl ?_
  refine ev_br (b1 := true) rfl rfl (xcd_gt (x := y) (y := x) (by first | exact b2 | omega)) ?_
  refine ev_go 2 (pc1 := 4) (lv1 := [.ref 37, .int x, .int f, .int (t + 1)]) (st1 := []) (h1 := (124, I, J, R)) rfl ?_
  exact hk
set_option maxRecDepth 20000 in
theorem ut_c_23 {L : Nat} {xs : Nat → Int32} {d : Nat} {I : Nat → Nat → Int32} {J : Nat → Nat → Int64} {R : Nat → Nat → Nat} {x f t y : Int32} (hG : aGd R) (b1 : t.toInt < (I 37 5).toInt) (c1 : xEv L xs d 39 0 [.ref 38, .int t] [] (124, I, J, R) (some (.int y)) (124, I, J, R)) (b2 : y.toInt ≤ x.toInt) {v : Option Value} {h' : xH} (hk : xEv L xs (d + 1) 45 4 [.ref 37, .int x, .int (f + 1), .int (t + 1)] [] (124, I, J, R) v h') : xEv L xs (d + 1) 45 4 [.ref 37, .int x, .int f, .int t] [] (124, I, J, R) v h' := by
  refine ev_go 3 (pc1 := 9) (lv1 := [.ref 37, .int x, .int f, .int t]) (st1 := [.int (I 37 5), .int t]) (h1 := (124, I, J, R)) rfl ?_
  refine ev_br (b1 := false) rfl rfl (xcd_nge (x := t) (y := (I 37 5)) (by first | exact b1 | omega)) ?_
  refine ev_go 1 (pc1 := 13) (lv1 := [.ref 37, .int x, .int f, .int t]) (st1 := [.ref 37]) (h1 := (124, I, J, R)) rfl ?_
  refine ev_gf (c := 37) (t := 38) (X := R 37 0) rfl rfl (fun _ => rfl) rfl (hG 37 0 38 rfl rfl) ?_
  refine ev_go 1 (pc1 := 17) (lv1 := [.ref 37, .int x, .int f, .int t]) (st1 := [.int t, .ref 38]) (h1 := (124, I, J, R)) rfl ?_
  refine ev_call (v1 := (some (.int y))) (h1 := (124, I, J, R)) rfl rfl c1 ?_
  refine ev_go 1 (pc1 := 21) (lv1 := [.ref 37, .int x, .int f, .int t]) (st1 := [.int x, .int y]) (h1 := (124, I, J, R)) rfl ?_
  refine ev_br (b1 := false) rfl rfl (xcd_ngt (x := y) (y := x) (by first | exact b2 | omega)) ?_
  refine ev_go 3 (pc1 := 4) (lv1 := [.ref 37, .int x, .int (f + 1), .int (t + 1)]) (st1 := []) (h1 := (124, I, J, R)) rfl ?_
  exact hk
theorem ut_run_23 {L : Nat} {xs : Nat → Int32} {d : Nat} {I : Nat → Nat → Int32} {J : Nat → Nat → Int64} {R : Nat → Nat → Nat} (hG : aGd R) {l : List (Nat × Nat)} (hl : (I 37 5).toInt = l.length) (h64 : l.length ≤ 64) (hh : ∀ (t a b : Nat), l[t]? = some (a, b) → (I 38 t).toInt = a) (x : Int32) : ∃ y : Int32, xEv L xs (d + 1) 45 0 [.ref 37, .int x, xmk, xmk] [] (124, I, J, R) (some (.int y)) (124, I, J, R) ∧ y.toInt = dlN l x.toInt := by
  have loop : ∀ (q : Nat) (t f : Int32) (t' : Nat), l.length - t' = q → t.toInt = t' → t' ≤ l.length → f.toInt = dlN (l.take t') x.toInt → ∃ y : Int32, xEv L xs (d + 1) 45 4 [.ref 37, .int x, .int f, .int t] [] (124, I, J, R) (some (.int y)) (124, I, J, R) ∧ y.toInt = dlN l x.toInt := by
    intro q
    induction q with
    | zero =>
      intro t f t' h1 h2 h3 h4
      have e : t' = l.length := by omega
      rw [e, List.take_length] at h4
      exact ⟨f, ut_a_23 hG (by omega), h4⟩
    | succ q ih =>
      intro t f t' h1 h2 h3 h4
      have ei := i_add1 (x := t) (by omega)
      have ec := clamp_s (i := t) (by omega)
      have e2 : t.toNatClampNeg = t' := by omega
      have ht : t' < l.length := by omega
      have hx : l[t']? = some ((l[t']).1, (l[t']).2) := List.getElem?_eq_getElem ht
      have hs := dlN_s (x := x.toInt) hx
      have hle := dlN_le (l := l) (t := t') (x := x.toInt)
      have hv := hh _ _ _ hx
      have at1 := at_run (L := L) (xs := xs) (d := d) (h := (124, I, J, R)) (c := 38) (n := 64) (fun _ => rfl) (by decide) t
      rw [if_pos ⟨by omega, by omega⟩, e2] at at1
      by_cases g : (I 38 t').toInt ≤ x.toInt
      · have ef := i_add1 (x := f) (by omega)
        rw [if_pos (by omega)] at hs
        obtain ⟨y, r, e⟩ := ih (t + 1) (f + 1) (t' + 1) (by omega) (by omega) (by omega) (by rw [hs]; omega)
        exact ⟨y, ut_c_23 hG (by omega) at1 g r, e⟩
      · rw [if_neg (by omega)] at hs
        obtain ⟨y, r, e⟩ := ih (t + 1) f (t' + 1) (by omega) (by omega) (by omega) (by rw [hs]; omega)
        exact ⟨y, ut_b_23 hG (by omega) at1 (by show (I 38 t').toInt > _; omega) r, e⟩
  obtain ⟨y, r, e⟩ := loop _ 0 0 0 rfl rfl (Nat.zero_le _) (by rw [List.take_zero]; rfl)
  exact ⟨y, ut_0_23 hG r, e⟩
/-- the deadlines -/
theorem td_23 {L : Nat} {xs : Nat → Int32} {d : Nat} {J : Nat → Nat → Int64} {R : Nat → Nat → Nat} (hG : aGd R) {I0 : Nat → Nat → Int32} {l : List (Nat × Nat)} {nn : Nat} (hn : (I0 23 16).toInt = nn) (hn4 : nn ≤ 4) (hl : (I0 37 5).toInt = l.length) (h64 : l.length ≤ 64) (hh : ∀ (t a b : Nat), l[t]? = some (a, b) → (I0 38 t).toInt = a) : ∀ (q : Nat) (n : Int32) (n' : Nat) (I : Nat → Nat → Int32) (w : Value), nn - n' = q → n.toInt = n' → n' ≤ nn → (∀ c k, c ≠ 36 → I c k = I0 c k) → (∀ i, i < n' → (I 36 i).toInt = dlN l (I0 33 i).toInt) → ∃ I' : Nat → Nat → Int32, xEv L xs (d + 2) 43 80 [.ref 23, .int n, w] [] (124, I, J, R) none (124, I', J, R) ∧ (∀ c k, c ≠ 36 → I' c k = I0 c k) ∧ ∀ i, i < nn → (I' 36 i).toInt = dlN l (I0 33 i).toInt := by
  intro q
  induction q with
  | zero =>
    intro n n' I w h1 h2 h3 hI hD
    have e : n' = nn := by omega
    subst e
    exact ⟨I, lt_f_23 hG (by rw [hI 23 16 (by decide)]; omega), hI, hD⟩
  | succ q ih =>
    intro n n' I w h1 h2 h3 hI hD
    have ei := i_add1 (x := n) (by omega)
    have ec := clamp_s (i := n) (by omega)
    have e2 : n.toNatClampNeg = n' := by omega
    have at1 := at_run (L := L) (xs := xs) (d := d + 1) (h := (124, I, J, R)) (c := 33) (n := 4) (fun _ => rfl) (by decide) n
    rw [if_pos ⟨by omega, by omega⟩, e2] at at1
    obtain ⟨y, r, ey⟩ := ut_run_23 (L := L) (xs := xs) (d := d) (I := I) (J := J) hG (l := l) (by rw [hI 37 5 (by decide)]; exact hl) h64 (fun t a b h => by rw [hI 38 t (by decide)]; exact hh t a b h) (I 33 n')
    obtain ⟨I', r2, f1, f2⟩ := ih (n + 1) (n' + 1) (uI I 36 n.toNatClampNeg y) w (by omega) (by omega) (by omega) (fun c k hc => by rw [uI_c _ _ _ hc]; exact hI c k hc) (by
      intro i hi
      rw [e2]
      by_cases g : i = n'
      · rw [g, uI_s, ey, hI 33 n' (by decide)]
      · rw [uI_n _ _ (fun z => g z.2)]
        exact hD i (by omega))
    exact ⟨I', lt_g_23 hG (by rw [hI 23 16 (by decide)]; omega) at1 r hG (put_in (fun _ => rfl) (by decide) y (by omega) (by omega)) r2, f1, f2⟩
/-- the times laid -/
def LT_23 (I : Nat → Nat → Int32) (l : List (Nat × Nat)) (nn : Nat) (I' : Nat → Nat → Int32) : Prop := (∀ c q, ¬ (38 ≤ c ∧ c ≤ 42) → ¬ (c = 37 ∧ q = 5) → c ≠ 36 → I' c q = I c q) ∧ (I' 37 5).toInt = l.length ∧ (∀ (t a b : Nat), l[t]? = some (a, b) → (I' 38 t).toInt = a ∧ (I' 39 t).toInt = b ∧ I' 40 t = I 27 b ∧ I' 41 t = I 28 b ∧ I' 42 t = I 30 b) ∧ ∀ i, i < nn → (I' 36 i).toInt = dlN l (I 33 i).toInt
theorem lay_23 {L : Nat} {xs : Nat → Int32} {d : Nat} {I : Nat → Nat → Int32} {J : Nat → Nat → Int64} {R : Nat → Nat → Nat} (hG : aGd R) {M nn : Nat} (hM : (I 23 15).toInt = M) (hM2 : M ≤ 16) (hn : (I 23 16).toInt = nn) (hn4 : nn ≤ 4) (hz : (I 37 5).toInt = 0) : ∃ I' : Nat → Nat → Int32, xEv L xs (d + 2) 43 0 [.ref 23, xmk, xmk] [] (124, I, J, R) none (124, I', J, R) ∧ LT_23 I (tOut (fun k => (I 29 k).toInt) M 96) nn I' := by
  obtain ⟨I1, w1, a1, a2⟩ := to_23 (L := L) (xs := xs) (d := d) (J := J) (R := R) hG hM hM2 _ rfl _ 0 0 I xmk rfl rfl (by decide) ⟨fun _ _ _ _ => rfl, hz, fun t a b h => by cases h⟩
  obtain ⟨b0, b1, b2⟩ := a1
  obtain ⟨I2, r1, r2, r3⟩ := td_23 (L := L) (xs := xs) (d := d) (J := J) (R := R) hG (I0 := I1) (nn := nn) (by rw [b0 23 16 (by omega) (by omega)]; exact hn) hn4 b1 (tOut_64 hM2) (fun t a b h => (b2 t a b h).1) _ 0 0 I1 w1 rfl rfl (Nat.zero_le _) (fun _ _ _ => rfl) (fun i h => absurd h (by omega))
  refine ⟨I2, ev_go 2 (pc1 := 2) (lv1 := [.ref 23, .int 0, xmk]) (st1 := []) (h1 := (124, I, J, R)) rfl (a2 _ _ r1), fun c q g1 g2 g3 => by rw [r2 c q g3, b0 c q g1 g2], by rw [r2 37 5 (by decide)]; exact b1, fun t a b h => ?_, fun i hi => ?_⟩
  · rw [r2 38 t (by decide), r2 39 t (by decide), r2 40 t (by decide), r2 41 t (by decide), r2 42 t (by decide)]
    exact b2 t a b h
  · rw [r3 i hi, b0 33 i (by omega) (by omega)]
