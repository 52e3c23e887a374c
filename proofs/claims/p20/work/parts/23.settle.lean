theorem md {m c k n : Nat} (h1 : aPid c k = n) (h2 : Nat.testBit m n = true) : aisMod m (Sum.inr (c, k)) = true := by show Nat.testBit m (aPid c k) = true; rw [h1]; exact h2
/-! how many times there are -/
def cIn (f : Nat → Int) (z : Int) : Nat → Nat
  | 0 => 0
  | m + 1 => cIn f z m + (if f m = z then 1 else 0)
def cOut (f : Nat → Int) (M : Nat) : Nat → Nat
  | 0 => 0
  | h + 1 => cOut f M h + cIn f ((h % 24 : Nat) : Int) M
def c1 (v : Int) : Nat → Nat
  | 0 => 0
  | h + 1 => c1 v h + (if v = ((h % 24 : Nat) : Int) then 1 else 0)
theorem cOut_0 (f : Nat → Int) : ∀ h, cOut f 0 h = 0
  | 0 => rfl
  | h + 1 => by show cOut f 0 h + 0 = 0; rw [cOut_0 f h]
theorem cOut_s (f : Nat → Int) (M : Nat) : ∀ h, cOut f (M + 1) h = cOut f M h + c1 (f M) h
  | 0 => rfl
  | h + 1 => by
    show cOut f (M + 1) h + (cIn f ((h % 24 : Nat) : Int) M + (if f M = ((h % 24 : Nat) : Int) then 1 else 0)) = cOut f M h + cIn f ((h % 24 : Nat) : Int) M + (c1 (f M) h + (if f M = ((h % 24 : Nat) : Int) then 1 else 0))
    rw [cOut_s f M h]
    omega
theorem c1_k : ∀ k : Nat, k < 24 → c1 (k : Int) 96 ≤ 4 := by decide +kernel
theorem c1_n {v : Int} (hv : ¬ (0 ≤ v ∧ v < 24)) : ∀ h, c1 v h = 0
  | 0 => rfl
  | h + 1 => by
    show c1 v h + (if v = ((h % 24 : Nat) : Int) then 1 else 0) = 0
    rw [c1_n hv h, if_neg (by omega)]
theorem c1_96 (v : Int) : c1 v 96 ≤ 4 := by
  by_cases hv : 0 ≤ v ∧ v < 24
  · obtain ⟨k, rfl⟩ := Int.eq_ofNat_of_zero_le hv.1
    exact c1_k k (by omega)
  · rw [c1_n hv]
    decide
theorem cOut_96 (f : Nat → Int) : ∀ M, cOut f M 96 ≤ 4 * M
  | 0 => by rw [cOut_0]; decide
  | M + 1 => by
    rw [cOut_s]
    have := cOut_96 f M
    have := c1_96 (f M)
    omega
theorem cOut_m (f : Nat → Int) (M h : Nat) : ∀ k, cOut f M h ≤ cOut f M (h + k)
  | 0 => Nat.le_refl _
  | k + 1 => Nat.le_trans (cOut_m f M h k) (Nat.le_add_right _ _)
theorem cIn_m (f : Nat → Int) (z : Int) (m : Nat) : ∀ k, cIn f z m ≤ cIn f z (m + k)
  | 0 => Nat.le_refl _
  | k + 1 => Nat.le_trans (cIn_m f z m k) (Nat.le_add_right _ _)
theorem cnt_le (f : Nat → Int) {M h m : Nat} (hh : h < 96) (hm : m ≤ M) : cOut f M h + cIn f ((h % 24 : Nat) : Int) m ≤ 4 * M := by
  have h1 := cIn_m f ((h % 24 : Nat) : Int) m (M - m)
  rw [Nat.add_sub_of_le hm] at h1
  have h2 := cOut_m f M (h + 1) (96 - (h + 1))
  rw [Nat.add_sub_of_le hh] at h2
  have h3 := cOut_96 f M
  have h4 : cOut f M (h + 1) = cOut f M h + cIn f ((h % 24 : Nat) : Int) M := rfl
  omega
theorem rem24 {u : Int32} {U : Nat} (hu : u.toInt = U) : (u - u / 24 * 24).toInt = ((U % 24 : Nat) : Int) := by
  rw [ai_rem (by decide), hu, show (24 : Int32).toInt = 24 from by decide, Int.tmod_eq_emod_of_nonneg (by omega)]
  omega
theorem xarr_h {α : Type} {I : Nat → Nat → Int32} {J : Nat → Nat → Int64} {R : Nat → Nat → Nat} {c N : Nat} {t : FieldType} (hc : c < 124) (hs : xsh c = some (.inr (t, N))) (f : FieldType → Nat → Option α) : xarr (124, I, J, R) c f = f t N := by
  unfold xarr
  have h1 : Nat.ble 124 c = false := by
    cases h : Nat.ble 124 c with
    | false => rfl
    | true => have := Nat.le_of_ble_eq_true h; omega
  rw [show ((124, I, J, R) : xH).1 = 124 from rfl, h1, hs]
  rfl
/-- comes, of any row -/
theorem comes_loop {L : Nat} {xs : Nat → Int32} {d : Nat} {J : Nat → Nat → Int64} {R : Nat → Nat → Nat} {c N M : Nat} {mm : Int32} (hc : c < 124) (hs : xsh c = some (.inr (.int, N))) (hm : mm.toInt = M) (hN : 2 * M ≤ N) (hN2 : N < 1000000) : ∀ (q : Nat) (k : Int32) (K : Nat) (I : Nat → Nat → Int32), M - K = q → k.toInt = K → K ≤ M → ∃ I', xEv L xs d 143 2 [.ref c, .int mm, .int k] [] (124, I, J, R) none (124, I', J, R) ∧ (∀ c' k', c' ≠ c → I' c' k' = I c' k') ∧ (∀ k', I' c k' = if K ≤ k' ∧ k' < M then I c (M + k') else I c k') := by
  intro q
  induction q with
  | zero =>
    intro k K I h1 h2 h3
    refine ⟨I, ?_, fun _ _ _ => rfl, fun k' => by rw [if_neg (by omega)]⟩
    refine ev_go 2 (pc1 := 4) (lv1 := [.ref c, .int mm, .int k]) (st1 := [.int mm, .int k]) (h1 := (124, I, J, R)) rfl ?_
    refine ev_br (b1 := true) rfl rfl (xcd_ge (x := k) (y := mm) (by omega)) ?_
    exact ev_ret rfl rfl
  | succ q ih =>
    intro k K I h1 h2 h3
    have ei := i_add1 (x := k) (by omega)
    have es : (mm + k).toInt = mm.toInt + k.toInt := i_add (by omega) (by omega)
    have ec := clamp_s (i := mm + k) (by omega)
    have ec2 := clamp_s (i := k) (by omega)
    have e1 : (mm + k).toNatClampNeg = M + K := by omega
    have e2 : k.toNatClampNeg = K := by omega
    obtain ⟨I', he, f1, f2⟩ := ih (k + 1) (K + 1) (uI I c K (I c (M + K))) (by omega) (by omega) (by omega)
    refine ⟨I', ?_, ?_, ?_⟩
    · refine ev_go 2 (pc1 := 4) (lv1 := [.ref c, .int mm, .int k]) (st1 := [.int mm, .int k]) (h1 := (124, I, J, R)) rfl ?_
      refine ev_br (b1 := false) rfl rfl (xcd_nge (x := k) (y := mm) (by omega)) ?_
      refine ev_go 6 (pc1 := 13) (lv1 := [.ref c, .int mm, .int k]) (st1 := [.int (mm + k), .ref c, .int k, .ref c]) (h1 := (124, I, J, R)) rfl ?_
      refine ev_ild (n := N) rfl rfl (xarr_h hc hs) (by omega) (by omega) ?_
      refine ev_ist (n := N) rfl rfl (xarr_h hc hs) (by omega) (by omega) ?_
      refine ev_go 2 (pc1 := 2) (lv1 := [.ref c, .int mm, .int (k + 1)]) (st1 := []) (h1 := (124, uI I c K (I c (M + K)), J, R)) ?_ he
      rw [e1, e2]
      rfl
    · intro c' k' hcc
      rw [f1 c' k' hcc, uI_c I k' _ hcc]
    · intro k'
      rw [f2]
      by_cases a : k' = K
      · subst a
        rw [if_neg (by omega), if_pos (by omega), uI_s]
      · by_cases b : K + 1 ≤ k' ∧ k' < M
        · rw [if_pos b, if_pos (by omega), uI_n I _ (by omega)]
        · rw [if_neg b, if_neg (by omega), uI_n I _ (by omega)]
theorem comes_run {L : Nat} {xs : Nat → Int32} {d : Nat} {I : Nat → Nat → Int32} {J : Nat → Nat → Int64} {R : Nat → Nat → Nat} (c N M : Nat) (mm : Int32) (hc : c < 124) (hs : xsh c = some (.inr (.int, N))) (hm : mm.toInt = M) (hN : 2 * M ≤ N) (hN2 : N < 1000000) : ∃ I', xEv L xs d 143 0 [.ref c, .int mm, xmk] [] (124, I, J, R) none (124, I', J, R) ∧ (∀ c' k', c' ≠ c → I' c' k' = I c' k') ∧ (∀ k', I' c k' = if k' < M then I c (M + k') else I c k') := by
  obtain ⟨I', he, f1, f2⟩ := comes_loop (L := L) (xs := xs) (d := d) (J := J) (R := R) hc hs hm hN hN2 _ 0 0 I rfl rfl (Nat.zero_le _)
  refine ⟨I', ?_, f1, fun k' => by rw [f2]; by_cases a : k' < M; rw [if_pos ⟨Nat.zero_le _, a⟩, if_pos a]; rw [if_neg (by omega), if_neg a]⟩
  exact ev_go 2 (pc1 := 2) (lv1 := [.ref c, .int mm, .int 0]) (st1 := []) (h1 := (124, I, J, R)) rfl he
/-- a row that comes: the heap stays good -/
theorem comes_good {I I' : Nat → Nat → Int32} {J : Nat → Nat → Int64} {R : Nat → Nat → Nat} {c M : Nat} (hg : aGood (124, I, J, R)) (f1 : ∀ c' k', c' ≠ c → I' c' k' = I c' k') (f2 : ∀ k', I' c k' = if k' < M then I c (M + k') else I c k') (hr : ∀ k, k < M → aHas c (M + k) ∧ aRng c (M + k) = aRng c k) : aGood (124, I', J, R) := by
  refine ⟨rfl, ?_, hg.2.2⟩
  intro c' k' hh
  by_cases e : c' = c
  · subst e
    show aIn2 (aRng c' k') (I' c' k')
    rw [f2]
    by_cases a : k' < M
    · rw [if_pos a, ← (hr k' a).2]
      exact hg.2.1 _ _ (hr k' a).1
    · rw [if_neg a]
      exact hg.2.1 _ _ hh
  · show aIn2 (aRng c' k') (I' c' k')
    rw [f1 c' k' e]
    exact hg.2.1 _ _ hh
theorem row_fr {I I' : Nat → Nat → Int32} {J : Nat → Nat → Int64} {R : Nat → Nat → Nat} {c m : Nat} {h0 : xH} (hf : aFr m h0 (124, I, J, R)) (f1 : ∀ c' k', c' ≠ c → I' c' k' = I c' k') (f2 : ∀ k', aisMod m (Sum.inr (c, k')) = false → I' c k' = I c k') : aFr m h0 (124, I', J, R) := by
  intro c' k' hm
  obtain ⟨a1, a2, a3⟩ := hf c' k' hm
  refine ⟨?_, a2, a3⟩
  by_cases e : c' = c
  · subst e
    exact (f2 k' hm).trans a1
  · exact (f1 c' k' e).trans a1
set_option maxRecDepth 20000 in
theorem st_a {L : Nat} {xs : Nat → Int32} {d : Nat} {I : Nat → Nat → Int32} {J : Nat → Nat → Int64} {R : Nat → Nat → Nat} {u : Int32} {w : Value} (hG : aGd R) (b1 : u.toInt ≥ 96) {v : Option Value} {h' : xH} (hk : xEv L xs d 142 185 [.ref 86, .int u, w] [] (124, I, J, R) v h') : xEv L xs d 142 109 [.ref 86, .int u, w] [] (124, I, J, R) v h' := by
  refine ev_go 2 (pc1 := 112) (lv1 := [.ref 86, .int u, w]) (st1 := [.int 96, .int u]) (h1 := (124, I, J, R)) rfl ?_
  refine ev_br (b1 := true) rfl rfl (xcd_ge (x := u) (y := 96) (by rw [show ((96 : Int32)).toInt = 96 from by decide]; first | exact b1 | omega)) ?_
  exact hk
set_option maxRecDepth 20000 in
theorem st_b {L : Nat} {xs : Nat → Int32} {d : Nat} {I : Nat → Nat → Int32} {J : Nat → Nat → Int64} {R : Nat → Nat → Nat} {u : Int32} {w : Value} (hG : aGd R) (b1 : u.toInt < 96) {v : Option Value} {h' : xH} (hk : xEv L xs d 142 117 [.ref 86, .int u, .int 0] [] (124, I, J, R) v h') : xEv L xs d 142 109 [.ref 86, .int u, w] [] (124, I, J, R) v h' := by
  refine ev_go 2 (pc1 := 112) (lv1 := [.ref 86, .int u, w]) (st1 := [.int 96, .int u]) (h1 := (124, I, J, R)) rfl ?_
  refine ev_br (b1 := false) rfl rfl (xcd_nge (x := u) (y := 96) (by rw [show ((96 : Int32)).toInt = 96 from by decide]; first | exact b1 | omega)) ?_
  refine ev_go 2 (pc1 := 117) (lv1 := [.ref 86, .int u, .int 0]) (st1 := []) (h1 := (124, I, J, R)) rfl ?_
  exact hk
set_option maxRecDepth 20000 in
theorem st_c {L : Nat} {xs : Nat → Int32} {d : Nat} {I : Nat → Nat → Int32} {J : Nat → Nat → Int64} {R : Nat → Nat → Nat} {u m : Int32} (hG : aGd R) (b1 : m.toInt ≥ (I 88 1).toInt) {v : Option Value} {h' : xH} (hk : xEv L xs d 142 109 [.ref 86, .int (u + 1), .int m] [] (124, I, J, R) v h') : xEv L xs d 142 117 [.ref 86, .int u, .int m] [] (124, I, J, R) v h' := by
  refine ev_go 2 (pc1 := 119) (lv1 := [.ref 86, .int u, .int m]) (st1 := [.ref 86, .int m]) (h1 := (124, I, J, R)) rfl ?_
  refine ev_gf (c := 86) (t := 88) (X := R 86 12) rfl rfl (fun _ => rfl) rfl (hG 86 12 88 rfl rfl) ?_
  refine ev_go 2 (pc1 := 124) (lv1 := [.ref 86, .int u, .int m]) (st1 := [.int (I 88 1), .int m]) (h1 := (124, I, J, R)) rfl ?_
  refine ev_br (b1 := true) rfl rfl (xcd_ge (x := m) (y := (I 88 1)) (by first | exact b1 | omega)) ?_
  refine ev_go 2 (pc1 := 109) (lv1 := [.ref 86, .int (u + 1), .int m]) (st1 := []) (h1 := (124, I, J, R)) rfl ?_
  exact hk
set_option maxRecDepth 20000 in
theorem st_d {L : Nat} {xs : Nat → Int32} {d : Nat} {I : Nat → Nat → Int32} {J : Nat → Nat → Int64} {R : Nat → Nat → Nat} {u m : Int32} (hG : aGd R) (b1 : m.toInt < (I 88 1).toInt) (n1 : 0 ≤ m.toInt) (m1 : m.toInt < 32) (b2 : (I 94 m.toNatClampNeg).toInt ≠ (u - u / 24 * 24).toInt) {v : Option Value} {h' : xH} (hk : xEv L xs d 142 117 [.ref 86, .int u, .int (m + 1)] [] (124, I, J, R) v h') : xEv L xs d 142 117 [.ref 86, .int u, .int m] [] (124, I, J, R) v h' := by
  refine ev_go 2 (pc1 := 119) (lv1 := [.ref 86, .int u, .int m]) (st1 := [.ref 86, .int m]) (h1 := (124, I, J, R)) rfl ?_
  refine ev_gf (c := 86) (t := 88) (X := R 86 12) rfl rfl (fun _ => rfl) rfl (hG 86 12 88 rfl rfl) ?_
  refine ev_go 2 (pc1 := 124) (lv1 := [.ref 86, .int u, .int m]) (st1 := [.int (I 88 1), .int m]) (h1 := (124, I, J, R)) rfl ?_
  refine ev_br (b1 := false) rfl rfl (xcd_nge (x := m) (y := (I 88 1)) (by first | exact b1 | omega)) ?_
  refine ev_go 1 (pc1 := 128) (lv1 := [.ref 86, .int u, .int m]) (st1 := [.ref 86]) (h1 := (124, I, J, R)) rfl ?_
  refine ev_gf (c := 86) (t := 94) (X := R 86 18) rfl rfl (fun _ => rfl) rfl (hG 86 18 94 rfl rfl) ?_
  refine ev_go 1 (pc1 := 132) (lv1 := [.ref 86, .int u, .int m]) (st1 := [.int m, .ref 94]) (h1 := (124, I, J, R)) rfl ?_
  refine ev_ild (n := 32) rfl rfl (fun _ => rfl) n1 m1 ?_
  refine ev_go 2 (pc1 := 136) (lv1 := [.ref 86, .int u, .int m]) (st1 := [.int 24, .int u, .int (I 94 m.toNatClampNeg)]) (h1 := (124, I, J, R)) rfl ?_
  refine ev_go 1 (pc1 := 137) (lv1 := [.ref 86, .int u, .int m]) (st1 := [.int (u - u / 24 * 24), .int (I 94 m.toNatClampNeg)]) (h1 := (124, I, J, R)) rfl ?_
  refine ev_br (b1 := false) rfl rfl (xcd_neq (x := (I 94 m.toNatClampNeg)) (y := (u - u / 24 * 24)) (by first | exact b2 | omega)) ?_
  refine ev_go 3 (pc1 := 117) (lv1 := [.ref 86, .int u, .int (m + 1)]) (st1 := []) (h1 := (124, I, J, R)) rfl ?_
  exact hk
set_option maxRecDepth 20000 in
theorem st_e {L : Nat} {xs : Nat → Int32} {d : Nat} {I : Nat → Nat → Int32} {J : Nat → Nat → Int64} {R : Nat → Nat → Nat} {u m : Int32} (hG : aGd R) (b1 : m.toInt < (I 88 1).toInt) (n1 : 0 ≤ m.toInt) (m1 : m.toInt < 32) (b2 : (I 94 m.toNatClampNeg).toInt = (u - u / 24 * 24).toInt) (n2 : 0 ≤ (I 86 26).toInt) (m2 : (I 86 26).toInt < 64) (n3 : 0 ≤ (I 86 26).toInt) (m3 : (I 86 26).toInt < 64) {v : Option Value} {h' : xH} (hk : xEv L xs d 142 117 [.ref 86, .int u, .int (m + 1)] [] (124, (uI (uI (uI I 101 (I 86 26).toNatClampNeg m) 102 (I 86 26).toNatClampNeg u) 86 26 ((I 86 26) + 1)), J, R) v h') : xEv L xs d 142 117 [.ref 86, .int u, .int m] [] (124, I, J, R) v h' := by
  refine ev_go 2 (pc1 := 119) (lv1 := [.ref 86, .int u, .int m]) (st1 := [.ref 86, .int m]) (h1 := (124, I, J, R)) rfl ?_
  refine ev_gf (c := 86) (t := 88) (X := R 86 12) rfl rfl (fun _ => rfl) rfl (hG 86 12 88 rfl rfl) ?_
  refine ev_go 2 (pc1 := 124) (lv1 := [.ref 86, .int u, .int m]) (st1 := [.int (I 88 1), .int m]) (h1 := (124, I, J, R)) rfl ?_
  refine ev_br (b1 := false) rfl rfl (xcd_nge (x := m) (y := (I 88 1)) (by first | exact b1 | omega)) ?_
  refine ev_go 1 (pc1 := 128) (lv1 := [.ref 86, .int u, .int m]) (st1 := [.ref 86]) (h1 := (124, I, J, R)) rfl ?_
  refine ev_gf (c := 86) (t := 94) (X := R 86 18) rfl rfl (fun _ => rfl) rfl (hG 86 18 94 rfl rfl) ?_
  refine ev_go 1 (pc1 := 132) (lv1 := [.ref 86, .int u, .int m]) (st1 := [.int m, .ref 94]) (h1 := (124, I, J, R)) rfl ?_
  refine ev_ild (n := 32) rfl rfl (fun _ => rfl) n1 m1 ?_
  refine ev_go 2 (pc1 := 136) (lv1 := [.ref 86, .int u, .int m]) (st1 := [.int 24, .int u, .int (I 94 m.toNatClampNeg)]) (h1 := (124, I, J, R)) rfl ?_
  refine ev_go 1 (pc1 := 137) (lv1 := [.ref 86, .int u, .int m]) (st1 := [.int (u - u / 24 * 24), .int (I 94 m.toNatClampNeg)]) (h1 := (124, I, J, R)) rfl ?_
  refine ev_br (b1 := true) rfl rfl (xcd_eq (x := (I 94 m.toNatClampNeg)) (y := (u - u / 24 * 24)) (by first | exact b2 | omega)) ?_
  refine ev_go 1 (pc1 := 144) (lv1 := [.ref 86, .int u, .int m]) (st1 := [.ref 86]) (h1 := (124, I, J, R)) rfl ?_
  refine ev_gf (c := 86) (t := 101) (X := R 86 27) rfl rfl (fun _ => rfl) rfl (hG 86 27 101 rfl rfl) ?_
  refine ev_go 3 (pc1 := 152) (lv1 := [.ref 86, .int u, .int m]) (st1 := [.int m, .int (I 86 26), .ref 101]) (h1 := (124, I, J, R)) rfl ?_
  refine ev_ist (n := 64) rfl rfl (fun _ => rfl) n2 m2 ?_
  refine ev_go 1 (pc1 := 154) (lv1 := [.ref 86, .int u, .int m]) (st1 := [.ref 86]) (h1 := (124, (uI I 101 (I 86 26).toNatClampNeg m), J, R)) rfl ?_
  refine ev_gf (c := 86) (t := 102) (X := R 86 28) rfl rfl (fun _ => rfl) rfl (hG 86 28 102 rfl rfl) ?_
  refine ev_go 3 (pc1 := 162) (lv1 := [.ref 86, .int u, .int m]) (st1 := [.int u, .int (I 86 26), .ref 102]) (h1 := (124, (uI I 101 (I 86 26).toNatClampNeg m), J, R)) rfl ?_
  refine ev_ist (n := 64) rfl rfl (fun _ => rfl) n3 m3 ?_
  refine ev_go 8 (pc1 := 117) (lv1 := [.ref 86, .int u, .int (m + 1)]) (st1 := []) (h1 := (124, (uI (uI (uI I 101 (I 86 26).toNatClampNeg m) 102 (I 86 26).toNatClampNeg u) 86 26 ((I 86 26) + 1)), J, R)) rfl ?_
  exact hk
set_option maxRecDepth 20000 in
theorem st_f {L : Nat} {xs : Nat → Int32} {d : Nat} {I : Nat → Nat → Int32} {J : Nat → Nat → Int64} {R : Nat → Nat → Nat} {u : Int32} {w : Value} (hG : aGd R)  {v : Option Value} {h' : xH} (hk : xEv L xs d 142 187 [.ref 86, .int 0, w] [] (124, I, J, R) v h') : xEv L xs d 142 185 [.ref 86, .int u, w] [] (124, I, J, R) v h' := by
  refine ev_go 2 (pc1 := 187) (lv1 := [.ref 86, .int 0, w]) (st1 := []) (h1 := (124, I, J, R)) rfl ?_
  exact hk
set_option maxRecDepth 20000 in
theorem st_g {L : Nat} {xs : Nat → Int32} {d : Nat} {I : Nat → Nat → Int32} {J : Nat → Nat → Int64} {R : Nat → Nat → Nat} {n : Int32} {w : Value} (hG : aGd R) (b1 : n.toInt ≥ (I 88 2).toInt) {v : Option Value} {h' : xH} (hk : xEv L xs d 142 219 [.ref 86, .int n, w] [] (124, I, J, R) v h') : xEv L xs d 142 187 [.ref 86, .int n, w] [] (124, I, J, R) v h' := by
  refine ev_go 2 (pc1 := 189) (lv1 := [.ref 86, .int n, w]) (st1 := [.ref 86, .int n]) (h1 := (124, I, J, R)) rfl ?_
  refine ev_gf (c := 86) (t := 88) (X := R 86 12) rfl rfl (fun _ => rfl) rfl (hG 86 12 88 rfl rfl) ?_
  refine ev_go 2 (pc1 := 194) (lv1 := [.ref 86, .int n, w]) (st1 := [.int (I 88 2), .int n]) (h1 := (124, I, J, R)) rfl ?_
  refine ev_br (b1 := true) rfl rfl (xcd_ge (x := n) (y := (I 88 2)) (by first | exact b1 | omega)) ?_
  exact hk
set_option maxRecDepth 20000 in
theorem st_h {L : Nat} {xs : Nat → Int32} {d : Nat} {I : Nat → Nat → Int32} {J : Nat → Nat → Int64} {R : Nat → Nat → Nat} {I1 : Nat → Nat → Int32} {J1 : Nat → Nat → Int64} {R1 : Nat → Nat → Nat} {n x : Int32} {w : Value} (hG : aGd R) (b1 : n.toInt < (I 88 2).toInt) (n1 : 0 ≤ n.toInt) (m1 : n.toInt < 8) (c1 : xEv L xs d 144 0 [.ref 86, .int (I 98 n.toNatClampNeg), xmk] [] (124, I, J, R) (some (.int x)) (124, I1, J1, R1)) (hG1 : aGd R1) (n2 : 0 ≤ n.toInt) (m2 : n.toInt < 4) {v : Option Value} {h' : xH} (hk : xEv L xs (d + 1) 142 187 [.ref 86, .int (n + 1), w] [] (124, (uI I1 103 n.toNatClampNeg x), J1, R1) v h') : xEv L xs (d + 1) 142 187 [.ref 86, .int n, w] [] (124, I, J, R) v h' := by
  refine ev_go 2 (pc1 := 189) (lv1 := [.ref 86, .int n, w]) (st1 := [.ref 86, .int n]) (h1 := (124, I, J, R)) rfl ?_
  refine ev_gf (c := 86) (t := 88) (X := R 86 12) rfl rfl (fun _ => rfl) rfl (hG 86 12 88 rfl rfl) ?_
  refine ev_go 2 (pc1 := 194) (lv1 := [.ref 86, .int n, w]) (st1 := [.int (I 88 2), .int n]) (h1 := (124, I, J, R)) rfl ?_
  refine ev_br (b1 := false) rfl rfl (xcd_nge (x := n) (y := (I 88 2)) (by first | exact b1 | omega)) ?_
  refine ev_go 1 (pc1 := 198) (lv1 := [.ref 86, .int n, w]) (st1 := [.ref 86]) (h1 := (124, I, J, R)) rfl ?_
  refine ev_gf (c := 86) (t := 103) (X := R 86 29) rfl rfl (fun _ => rfl) rfl (hG 86 29 103 rfl rfl) ?_
  refine ev_go 3 (pc1 := 204) (lv1 := [.ref 86, .int n, w]) (st1 := [.ref 86, .ref 86, .int n, .ref 103]) (h1 := (124, I, J, R)) rfl ?_
  refine ev_gf (c := 86) (t := 98) (X := R 86 22) rfl rfl (fun _ => rfl) rfl (hG 86 22 98 rfl rfl) ?_
  refine ev_go 1 (pc1 := 208) (lv1 := [.ref 86, .int n, w]) (st1 := [.int n, .ref 98, .ref 86, .int n, .ref 103]) (h1 := (124, I, J, R)) rfl ?_
  refine ev_ild (n := 8) rfl rfl (fun _ => rfl) n1 m1 ?_
  refine ev_call (v1 := (some (.int x))) (h1 := (124, I1, J1, R1)) rfl rfl c1 ?_
  refine ev_ist (n := 4) rfl rfl (fun _ => rfl) n2 m2 ?_
  refine ev_go 2 (pc1 := 187) (lv1 := [.ref 86, .int (n + 1), w]) (st1 := []) (h1 := (124, (uI I1 103 n.toNatClampNeg x), J1, R1)) rfl ?_
  exact hk
set_option maxRecDepth 20000 in
theorem st_t {L : Nat} {xs : Nat → Int32} {d : Nat} {I : Nat → Nat → Int32} {J : Nat → Nat → Int64} {R : Nat → Nat → Nat} {n : Int32} {w : Value} (hG : aGd R)  : xEv L xs d 142 219 [.ref 86, .int n, w] [] (124, I, J, R) none (124, (uI (uI (uI (uI (uI (uI (uI (uI (uI (uI (uI (uI (uI (uI (uI (uI (uI (uI (uI (uI I 119 0 3) 120 0 0) 119 1 3) 120 1 0) 119 2 3) 120 2 0) 119 3 3) 120 3 0) 119 4 3) 120 4 0) 119 5 3) 120 5 0) 119 6 3) 120 6 0) 121 0 0) 123 0 (vp_nar .boolean 0)) 123 1 (vp_nar .boolean 0)) 123 2 (vp_nar .boolean 0)) 86 35 0) 86 51 0), J, R) := by
  refine ev_go 6 (pc1 := 228) (lv1 := [.ref 86, .int 0, w]) (st1 := [.ref 86]) (h1 := (124, I, J, R)) rfl ?_
  refine ev_gf (c := 86) (t := 119) (X := R 86 54) rfl rfl (fun _ => rfl) rfl (hG 86 54 119 rfl rfl) ?_
  refine ev_go 4 (pc1 := 235) (lv1 := [.ref 86, .int 0, w]) (st1 := [.ref 86]) (h1 := (124, (uI I 119 0 3), J, R)) rfl ?_
  refine ev_gf (c := 86) (t := 120) (X := R 86 55) rfl rfl (fun _ => rfl) rfl (hG 86 55 120 rfl rfl) ?_
  refine ev_go 9 (pc1 := 228) (lv1 := [.ref 86, .int 1, w]) (st1 := [.ref 86]) (h1 := (124, (uI (uI I 119 0 3) 120 0 0), J, R)) rfl ?_
  refine ev_gf (c := 86) (t := 119) (X := R 86 54) rfl rfl (fun _ => rfl) rfl (hG 86 54 119 rfl rfl) ?_
  refine ev_go 4 (pc1 := 235) (lv1 := [.ref 86, .int 1, w]) (st1 := [.ref 86]) (h1 := (124, (uI (uI (uI I 119 0 3) 120 0 0) 119 1 3), J, R)) rfl ?_
  refine ev_gf (c := 86) (t := 120) (X := R 86 55) rfl rfl (fun _ => rfl) rfl (hG 86 55 120 rfl rfl) ?_
  refine ev_go 9 (pc1 := 228) (lv1 := [.ref 86, .int 2, w]) (st1 := [.ref 86]) (h1 := (124, (uI (uI (uI (uI I 119 0 3) 120 0 0) 119 1 3) 120 1 0), J, R)) rfl ?_
  refine ev_gf (c := 86) (t := 119) (X := R 86 54) rfl rfl (fun _ => rfl) rfl (hG 86 54 119 rfl rfl) ?_
  refine ev_go 4 (pc1 := 235) (lv1 := [.ref 86, .int 2, w]) (st1 := [.ref 86]) (h1 := (124, (uI (uI (uI (uI (uI I 119 0 3) 120 0 0) 119 1 3) 120 1 0) 119 2 3), J, R)) rfl ?_
  refine ev_gf (c := 86) (t := 120) (X := R 86 55) rfl rfl (fun _ => rfl) rfl (hG 86 55 120 rfl rfl) ?_
  refine ev_go 9 (pc1 := 228) (lv1 := [.ref 86, .int 3, w]) (st1 := [.ref 86]) (h1 := (124, (uI (uI (uI (uI (uI (uI I 119 0 3) 120 0 0) 119 1 3) 120 1 0) 119 2 3) 120 2 0), J, R)) rfl ?_
  refine ev_gf (c := 86) (t := 119) (X := R 86 54) rfl rfl (fun _ => rfl) rfl (hG 86 54 119 rfl rfl) ?_
  refine ev_go 4 (pc1 := 235) (lv1 := [.ref 86, .int 3, w]) (st1 := [.ref 86]) (h1 := (124, (uI (uI (uI (uI (uI (uI (uI I 119 0 3) 120 0 0) 119 1 3) 120 1 0) 119 2 3) 120 2 0) 119 3 3), J, R)) rfl ?_
  refine ev_gf (c := 86) (t := 120) (X := R 86 55) rfl rfl (fun _ => rfl) rfl (hG 86 55 120 rfl rfl) ?_
  refine ev_go 9 (pc1 := 228) (lv1 := [.ref 86, .int 4, w]) (st1 := [.ref 86]) (h1 := (124, (uI (uI (uI (uI (uI (uI (uI (uI I 119 0 3) 120 0 0) 119 1 3) 120 1 0) 119 2 3) 120 2 0) 119 3 3) 120 3 0), J, R)) rfl ?_
  refine ev_gf (c := 86) (t := 119) (X := R 86 54) rfl rfl (fun _ => rfl) rfl (hG 86 54 119 rfl rfl) ?_
  refine ev_go 4 (pc1 := 235) (lv1 := [.ref 86, .int 4, w]) (st1 := [.ref 86]) (h1 := (124, (uI (uI (uI (uI (uI (uI (uI (uI (uI I 119 0 3) 120 0 0) 119 1 3) 120 1 0) 119 2 3) 120 2 0) 119 3 3) 120 3 0) 119 4 3), J, R)) rfl ?_
  refine ev_gf (c := 86) (t := 120) (X := R 86 55) rfl rfl (fun _ => rfl) rfl (hG 86 55 120 rfl rfl) ?_
  refine ev_go 9 (pc1 := 228) (lv1 := [.ref 86, .int 5, w]) (st1 := [.ref 86]) (h1 := (124, (uI (uI (uI (uI (uI (uI (uI (uI (uI (uI I 119 0 3) 120 0 0) 119 1 3) 120 1 0) 119 2 3) 120 2 0) 119 3 3) 120 3 0) 119 4 3) 120 4 0), J, R)) rfl ?_
  refine ev_gf (c := 86) (t := 119) (X := R 86 54) rfl rfl (fun _ => rfl) rfl (hG 86 54 119 rfl rfl) ?_
  refine ev_go 4 (pc1 := 235) (lv1 := [.ref 86, .int 5, w]) (st1 := [.ref 86]) (h1 := (124, (uI (uI (uI (uI (uI (uI (uI (uI (uI (uI (uI I 119 0 3) 120 0 0) 119 1 3) 120 1 0) 119 2 3) 120 2 0) 119 3 3) 120 3 0) 119 4 3) 120 4 0) 119 5 3), J, R)) rfl ?_
  refine ev_gf (c := 86) (t := 120) (X := R 86 55) rfl rfl (fun _ => rfl) rfl (hG 86 55 120 rfl rfl) ?_
  refine ev_go 9 (pc1 := 228) (lv1 := [.ref 86, .int 6, w]) (st1 := [.ref 86]) (h1 := (124, (uI (uI (uI (uI (uI (uI (uI (uI (uI (uI (uI (uI I 119 0 3) 120 0 0) 119 1 3) 120 1 0) 119 2 3) 120 2 0) 119 3 3) 120 3 0) 119 4 3) 120 4 0) 119 5 3) 120 5 0), J, R)) rfl ?_
  refine ev_gf (c := 86) (t := 119) (X := R 86 54) rfl rfl (fun _ => rfl) rfl (hG 86 54 119 rfl rfl) ?_
  refine ev_go 4 (pc1 := 235) (lv1 := [.ref 86, .int 6, w]) (st1 := [.ref 86]) (h1 := (124, (uI (uI (uI (uI (uI (uI (uI (uI (uI (uI (uI (uI (uI I 119 0 3) 120 0 0) 119 1 3) 120 1 0) 119 2 3) 120 2 0) 119 3 3) 120 3 0) 119 4 3) 120 4 0) 119 5 3) 120 5 0) 119 6 3), J, R)) rfl ?_
  refine ev_gf (c := 86) (t := 120) (X := R 86 55) rfl rfl (fun _ => rfl) rfl (hG 86 55 120 rfl rfl) ?_
  refine ev_go 9 (pc1 := 248) (lv1 := [.ref 86, .int 7, w]) (st1 := [.ref 86]) (h1 := (124, (uI (uI (uI (uI (uI (uI (uI (uI (uI (uI (uI (uI (uI (uI I 119 0 3) 120 0 0) 119 1 3) 120 1 0) 119 2 3) 120 2 0) 119 3 3) 120 3 0) 119 4 3) 120 4 0) 119 5 3) 120 5 0) 119 6 3) 120 6 0), J, R)) rfl ?_
  refine ev_gf (c := 86) (t := 121) (X := R 86 56) rfl rfl (fun _ => rfl) rfl (hG 86 56 121 rfl rfl) ?_
  refine ev_go 9 (pc1 := 262) (lv1 := [.ref 86, .int 0, w]) (st1 := [.ref 86]) (h1 := (124, (uI (uI (uI (uI (uI (uI (uI (uI (uI (uI (uI (uI (uI (uI (uI I 119 0 3) 120 0 0) 119 1 3) 120 1 0) 119 2 3) 120 2 0) 119 3 3) 120 3 0) 119 4 3) 120 4 0) 119 5 3) 120 5 0) 119 6 3) 120 6 0) 121 0 0), J, R)) rfl ?_
  refine ev_gf (c := 86) (t := 123) (X := R 86 58) rfl rfl (fun _ => rfl) rfl (hG 86 58 123 rfl rfl) ?_
  refine ev_go 9 (pc1 := 262) (lv1 := [.ref 86, .int 1, w]) (st1 := [.ref 86]) (h1 := (124, (uI (uI (uI (uI (uI (uI (uI (uI (uI (uI (uI (uI (uI (uI (uI (uI I 119 0 3) 120 0 0) 119 1 3) 120 1 0) 119 2 3) 120 2 0) 119 3 3) 120 3 0) 119 4 3) 120 4 0) 119 5 3) 120 5 0) 119 6 3) 120 6 0) 121 0 0) 123 0 (vp_nar .boolean 0)), J, R)) rfl ?_
  refine ev_gf (c := 86) (t := 123) (X := R 86 58) rfl rfl (fun _ => rfl) rfl (hG 86 58 123 rfl rfl) ?_
  refine ev_go 9 (pc1 := 262) (lv1 := [.ref 86, .int 2, w]) (st1 := [.ref 86]) (h1 := (124, (uI (uI (uI (uI (uI (uI (uI (uI (uI (uI (uI (uI (uI (uI (uI (uI (uI I 119 0 3) 120 0 0) 119 1 3) 120 1 0) 119 2 3) 120 2 0) 119 3 3) 120 3 0) 119 4 3) 120 4 0) 119 5 3) 120 5 0) 119 6 3) 120 6 0) 121 0 0) 123 0 (vp_nar .boolean 0)) 123 1 (vp_nar .boolean 0)), J, R)) rfl ?_
  refine ev_gf (c := 86) (t := 123) (X := R 86 58) rfl rfl (fun _ => rfl) rfl (hG 86 58 123 rfl rfl) ?_
  refine ev_go 14 (pc1 := 284) (lv1 := [.ref 86, .int 3, w]) (st1 := []) (h1 := (124, (uI (uI (uI (uI (uI (uI (uI (uI (uI (uI (uI (uI (uI (uI (uI (uI (uI (uI (uI (uI I 119 0 3) 120 0 0) 119 1 3) 120 1 0) 119 2 3) 120 2 0) 119 3 3) 120 3 0) 119 4 3) 120 4 0) 119 5 3) 120 5 0) 119 6 3) 120 6 0) 121 0 0) 123 0 (vp_nar .boolean 0)) 123 1 (vp_nar .boolean 0)) 123 2 (vp_nar .boolean 0)) 86 35 0) 86 51 0), J, R)) rfl ?_
  exact ev_ret rfl rfl
set_option maxRecDepth 20000 in
theorem st_0 {L : Nat} {xs : Nat → Int32} {d : Nat} {I : Nat → Nat → Int32} {J : Nat → Nat → Int64} {R : Nat → Nat → Nat} {I1 : Nat → Nat → Int32} {I2 : Nat → Nat → Int32} {I3 : Nat → Nat → Int32} {I4 : Nat → Nat → Int32} {I5 : Nat → Nat → Int32} {I6 : Nat → Nat → Int32} {I7 : Nat → Nat → Int32} {I8 : Nat → Nat → Int32} {I9 : Nat → Nat → Int32} {I10 : Nat → Nat → Int32} {I11 : Nat → Nat → Int32} {I12 : Nat → Nat → Int32} (hG : aGd R) (c1 : xEv L xs d 143 0 [.ref 88, .int 3, xmk] [] (124, I, J, R) none (124, I1, J, R)) (c2 : xEv L xs d 143 0 [.ref 90, .int 7, xmk] [] (124, I1, J, R) none (124, I2, J, R)) (c3 : xEv L xs d 143 0 [.ref 91, .int 7, xmk] [] (124, I2, J, R) none (124, I3, J, R)) (c4 : xEv L xs d 143 0 [.ref 92, .int 16, xmk] [] (124, I3, J, R) none (124, I4, J, R)) (c5 : xEv L xs d 143 0 [.ref 93, .int 16, xmk] [] (124, I4, J, R) none (124, I5, J, R)) (c6 : xEv L xs d 143 0 [.ref 94, .int 16, xmk] [] (124, I5, J, R) none (124, I6, J, R)) (c7 : xEv L xs d 143 0 [.ref 95, .int 16, xmk] [] (124, I6, J, R) none (124, I7, J, R)) (c8 : xEv L xs d 143 0 [.ref 96, .int 4, xmk] [] (124, I7, J, R) none (124, I8, J, R)) (c9 : xEv L xs d 143 0 [.ref 97, .int 4, xmk] [] (124, I8, J, R) none (124, I9, J, R)) (c10 : xEv L xs d 143 0 [.ref 98, .int 4, xmk] [] (124, I9, J, R) none (124, I10, J, R)) (c11 : xEv L xs d 143 0 [.ref 99, .int 4, xmk] [] (124, I10, J, R) none (124, I11, J, R)) (c12 : xEv L xs d 143 0 [.ref 100, .int 4, xmk] [] (124, I11, J, R) none (124, I12, J, R)) {v : Option Value} {h' : xH} (hk : xEv L xs (d + 1) 142 109 [.ref 86, .int 0, xmk] [] (124, (uI I12 86 26 0), J, R) v h') : xEv L xs (d + 1) 142 0 [.ref 86, xmk, xmk] [] (124, I, J, R) v h' := by
  refine ev_go 1 (pc1 := 1) (lv1 := [.ref 86, xmk, xmk]) (st1 := [.ref 86]) (h1 := (124, I, J, R)) rfl ?_
  refine ev_gf (c := 86) (t := 88) (X := R 86 12) rfl rfl (fun _ => rfl) rfl (hG 86 12 88 rfl rfl) ?_
  refine ev_go 1 (pc1 := 5) (lv1 := [.ref 86, xmk, xmk]) (st1 := [.int 3, .ref 88]) (h1 := (124, I, J, R)) rfl ?_
  refine ev_call (v1 := none) (h1 := (124, I1, J, R)) rfl rfl c1 ?_
  refine ev_go 1 (pc1 := 9) (lv1 := [.ref 86, xmk, xmk]) (st1 := [.ref 86]) (h1 := (124, I1, J, R)) rfl ?_
  refine ev_gf (c := 86) (t := 90) (X := R 86 14) rfl rfl (fun _ => rfl) rfl (hG 86 14 90 rfl rfl) ?_
  refine ev_go 1 (pc1 := 14) (lv1 := [.ref 86, xmk, xmk]) (st1 := [.int 7, .ref 90]) (h1 := (124, I1, J, R)) rfl ?_
  refine ev_call (v1 := none) (h1 := (124, I2, J, R)) rfl rfl c2 ?_
  refine ev_go 1 (pc1 := 18) (lv1 := [.ref 86, xmk, xmk]) (st1 := [.ref 86]) (h1 := (124, I2, J, R)) rfl ?_
  refine ev_gf (c := 86) (t := 91) (X := R 86 15) rfl rfl (fun _ => rfl) rfl (hG 86 15 91 rfl rfl) ?_
  refine ev_go 1 (pc1 := 23) (lv1 := [.ref 86, xmk, xmk]) (st1 := [.int 7, .ref 91]) (h1 := (124, I2, J, R)) rfl ?_
  refine ev_call (v1 := none) (h1 := (124, I3, J, R)) rfl rfl c3 ?_
  refine ev_go 1 (pc1 := 27) (lv1 := [.ref 86, xmk, xmk]) (st1 := [.ref 86]) (h1 := (124, I3, J, R)) rfl ?_
  refine ev_gf (c := 86) (t := 92) (X := R 86 16) rfl rfl (fun _ => rfl) rfl (hG 86 16 92 rfl rfl) ?_
  refine ev_go 1 (pc1 := 32) (lv1 := [.ref 86, xmk, xmk]) (st1 := [.int 16, .ref 92]) (h1 := (124, I3, J, R)) rfl ?_
  refine ev_call (v1 := none) (h1 := (124, I4, J, R)) rfl rfl c4 ?_
  refine ev_go 1 (pc1 := 36) (lv1 := [.ref 86, xmk, xmk]) (st1 := [.ref 86]) (h1 := (124, I4, J, R)) rfl ?_
  refine ev_gf (c := 86) (t := 93) (X := R 86 17) rfl rfl (fun _ => rfl) rfl (hG 86 17 93 rfl rfl) ?_
  refine ev_go 1 (pc1 := 41) (lv1 := [.ref 86, xmk, xmk]) (st1 := [.int 16, .ref 93]) (h1 := (124, I4, J, R)) rfl ?_
  refine ev_call (v1 := none) (h1 := (124, I5, J, R)) rfl rfl c5 ?_
  refine ev_go 1 (pc1 := 45) (lv1 := [.ref 86, xmk, xmk]) (st1 := [.ref 86]) (h1 := (124, I5, J, R)) rfl ?_
  refine ev_gf (c := 86) (t := 94) (X := R 86 18) rfl rfl (fun _ => rfl) rfl (hG 86 18 94 rfl rfl) ?_
  refine ev_go 1 (pc1 := 50) (lv1 := [.ref 86, xmk, xmk]) (st1 := [.int 16, .ref 94]) (h1 := (124, I5, J, R)) rfl ?_
  refine ev_call (v1 := none) (h1 := (124, I6, J, R)) rfl rfl c6 ?_
  refine ev_go 1 (pc1 := 54) (lv1 := [.ref 86, xmk, xmk]) (st1 := [.ref 86]) (h1 := (124, I6, J, R)) rfl ?_
  refine ev_gf (c := 86) (t := 95) (X := R 86 19) rfl rfl (fun _ => rfl) rfl (hG 86 19 95 rfl rfl) ?_
  refine ev_go 1 (pc1 := 59) (lv1 := [.ref 86, xmk, xmk]) (st1 := [.int 16, .ref 95]) (h1 := (124, I6, J, R)) rfl ?_
  refine ev_call (v1 := none) (h1 := (124, I7, J, R)) rfl rfl c7 ?_
  refine ev_go 1 (pc1 := 63) (lv1 := [.ref 86, xmk, xmk]) (st1 := [.ref 86]) (h1 := (124, I7, J, R)) rfl ?_
  refine ev_gf (c := 86) (t := 96) (X := R 86 20) rfl rfl (fun _ => rfl) rfl (hG 86 20 96 rfl rfl) ?_
  refine ev_go 1 (pc1 := 67) (lv1 := [.ref 86, xmk, xmk]) (st1 := [.int 4, .ref 96]) (h1 := (124, I7, J, R)) rfl ?_
  refine ev_call (v1 := none) (h1 := (124, I8, J, R)) rfl rfl c8 ?_
  refine ev_go 1 (pc1 := 71) (lv1 := [.ref 86, xmk, xmk]) (st1 := [.ref 86]) (h1 := (124, I8, J, R)) rfl ?_
  refine ev_gf (c := 86) (t := 97) (X := R 86 21) rfl rfl (fun _ => rfl) rfl (hG 86 21 97 rfl rfl) ?_
  refine ev_go 1 (pc1 := 75) (lv1 := [.ref 86, xmk, xmk]) (st1 := [.int 4, .ref 97]) (h1 := (124, I8, J, R)) rfl ?_
  refine ev_call (v1 := none) (h1 := (124, I9, J, R)) rfl rfl c9 ?_
  refine ev_go 1 (pc1 := 79) (lv1 := [.ref 86, xmk, xmk]) (st1 := [.ref 86]) (h1 := (124, I9, J, R)) rfl ?_
  refine ev_gf (c := 86) (t := 98) (X := R 86 22) rfl rfl (fun _ => rfl) rfl (hG 86 22 98 rfl rfl) ?_
  refine ev_go 1 (pc1 := 83) (lv1 := [.ref 86, xmk, xmk]) (st1 := [.int 4, .ref 98]) (h1 := (124, I9, J, R)) rfl ?_
  refine ev_call (v1 := none) (h1 := (124, I10, J, R)) rfl rfl c10 ?_
  refine ev_go 1 (pc1 := 87) (lv1 := [.ref 86, xmk, xmk]) (st1 := [.ref 86]) (h1 := (124, I10, J, R)) rfl ?_
  refine ev_gf (c := 86) (t := 99) (X := R 86 23) rfl rfl (fun _ => rfl) rfl (hG 86 23 99 rfl rfl) ?_
  refine ev_go 1 (pc1 := 91) (lv1 := [.ref 86, xmk, xmk]) (st1 := [.int 4, .ref 99]) (h1 := (124, I10, J, R)) rfl ?_
  refine ev_call (v1 := none) (h1 := (124, I11, J, R)) rfl rfl c11 ?_
  refine ev_go 1 (pc1 := 95) (lv1 := [.ref 86, xmk, xmk]) (st1 := [.ref 86]) (h1 := (124, I11, J, R)) rfl ?_
  refine ev_gf (c := 86) (t := 100) (X := R 86 24) rfl rfl (fun _ => rfl) rfl (hG 86 24 100 rfl rfl) ?_
  refine ev_go 1 (pc1 := 99) (lv1 := [.ref 86, xmk, xmk]) (st1 := [.int 4, .ref 100]) (h1 := (124, I11, J, R)) rfl ?_
  refine ev_call (v1 := none) (h1 := (124, I12, J, R)) rfl rfl c12 ?_
  refine ev_go 5 (pc1 := 109) (lv1 := [.ref 86, .int 0, xmk]) (st1 := []) (h1 := (124, (uI I12 86 26 0), J, R)) rfl ?_
  exact hk
def stInv (h0 : xH) (J : Nat → Nat → Int64) (R : Nat → Nat → Nat) (I0 : Nat → Nat → Int32) (c : Nat) (I : Nat → Nat → Int32) : Prop := aGood (124, I, J, R) ∧ aFr (aMod 332) h0 (124, I, J, R) ∧ I 88 1 = I0 88 1 ∧ (∀ k, I 94 k = I0 94 k) ∧ (I 86 26).toInt = c
theorem stL {L : Nat} {xs : Nat → Int32} {d : Nat} {h0 : aE} {J : Nat → Nat → Int64} {R : Nat → Nat → Nat} {I0 : Nat → Nat → Int32} {M : Nat} (hM : (I0 88 1).toInt = M) (hM2 : M ≤ 16) (f : Nat → Int) (hf : f = fun k => (I0 94 k).toInt) {u : Int32} {U : Nat} (hu : u.toInt = U) (hU : U < 96) (kk : ∀ I', stInv h0.1 J R I0 (cOut f M (U + 1)) I' → ∀ w, aT L xs d 332 h0 109 [.ref 86, .int (u + 1), w] [] (124, I', J, R)) : ∀ (q : Nat) (m : Int32) (m' : Nat) (I : Nat → Nat → Int32), M - m' = q → m.toInt = m' → m' ≤ M → stInv h0.1 J R I0 (cOut f M U + cIn f ((U % 24 : Nat) : Int) m') I → aT L xs d 332 h0 117 [.ref 86, .int u, .int m] [] (124, I, J, R) := by
  intro q
  induction q with
  | zero =>
    intro m m' I h1 h2 h3 hI
    have e : m' = M := by omega
    subst e
    obtain ⟨hg, hfr, i1, i2, i3⟩ := hI
    exact aT_of (fun hk => st_c (gd_of hg) (by rw [i1]; omega) hk) (kk I ⟨hg, hfr, i1, i2, i3⟩ _)
  | succ q ih =>
    intro m m' I h1 h2 h3 hI
    obtain ⟨hg, hfr, i1, i2, i3⟩ := hI
    have ei := i_add1 (x := m) (by omega)
    have ec := clamp_s (i := m) (by omega)
    have e2 : m.toNatClampNeg = m' := by omega
    have er := rem24 hu
    have ef : f m' = (I 94 m').toInt := by rw [hf, i2]
    have hcS : cIn f ((U % 24 : Nat) : Int) (m' + 1) = cIn f ((U % 24 : Nat) : Int) m' + (if f m' = ((U % 24 : Nat) : Int) then 1 else 0) := rfl
    by_cases hq : (I 94 m').toInt = ((U % 24 : Nat) : Int)
    · rw [if_pos (by rw [ef]; exact hq)] at hcS
      have hle := cnt_le f hU (m := m' + 1) (M := M) (by omega)
      have et := clamp_s (i := I 86 26) (by omega)
      have ea : (I 86 26 + 1).toInt = (I 86 26).toInt + 1 := i_add1 (by omega)
      refine aT_of (fun hk => st_e (gd_of hg) (by rw [i1]; omega) (by omega) (by omega) (by rw [e2, hq, er]) (by omega) (by omega) (by omega) (by omega) hk) (ih (m + 1) (m' + 1) _ (by omega) (by omega) (by omega) ⟨?_, ?_, ?_, ?_, ?_⟩)
      · refine gd_I (gd_I (gd_I hg ?_ ?_) ?_ ?_) ?_ ?_
        · show (0 : Int) ≤ m.toInt; omega
        · show m.toInt ≤ 15; omega
        · exact (aw u).1
        · exact (aw u).2
        · show (0 : Int) ≤ (I 86 26 + 1).toInt; omega
        · show (I 86 26 + 1).toInt ≤ 64; omega
      · exact fr_uI (fr_uI (fr_uI hfr (md (n := 284) rfl rfl)) (md (n := 285) rfl rfl)) rfl
      · exact i1
      · exact i2
      · show (I 86 26 + 1).toInt = _
        rw [hcS]
        omega
    · rw [if_neg (by rw [ef]; exact hq)] at hcS
      exact aT_of (fun hk => st_d (gd_of hg) (by rw [i1]; omega) (by omega) (by omega) (by rw [e2, er]; exact hq) hk) (ih (m + 1) (m' + 1) I (by omega) (by omega) (by omega) ⟨hg, hfr, i1, i2, by rw [hcS]; omega⟩)
theorem stO {L : Nat} {xs : Nat → Int32} {d : Nat} {h0 : aE} {J : Nat → Nat → Int64} {R : Nat → Nat → Nat} {I0 : Nat → Nat → Int32} {M : Nat} (hM : (I0 88 1).toInt = M) (hM2 : M ≤ 16) (f : Nat → Int) (hf : f = fun k => (I0 94 k).toInt) (kk : ∀ I', stInv h0.1 J R I0 (cOut f M 96) I' → ∀ u w, aT L xs d 332 h0 185 [.ref 86, .int u, w] [] (124, I', J, R)) : ∀ (q : Nat) (u : Int32) (U : Nat) (I : Nat → Nat → Int32), 96 - U = q → u.toInt = U → U ≤ 96 → stInv h0.1 J R I0 (cOut f M U) I → ∀ w, aT L xs d 332 h0 109 [.ref 86, .int u, w] [] (124, I, J, R) := by
  intro q
  induction q with
  | zero =>
    intro u U I h1 h2 h3 hI w
    have e : U = 96 := by omega
    subst e
    exact aT_of (fun hk => st_a (gd_of hI.1) (by omega) hk) (kk I hI _ _)
  | succ q ih =>
    intro u U I h1 h2 h3 hI w
    have ei := i_add1 (x := u) (by omega)
    refine aT_of (fun hk => st_b (gd_of hI.1) (by omega) hk) (stL hM hM2 f hf h2 (by omega) (fun I' hI' w' => ih (u + 1) (U + 1) I' (by omega) (by omega) (by omega) hI' w') _ 0 0 I rfl rfl (Nat.zero_le _) hI)
theorem stN (hk : aOK 5) {L : Nat} {xs : Nat → Int32} {d : Nat} {h0 : aE} : ∀ (q : Nat) (n : Int32) (n' : Nat) (I : Nat → Nat → Int32) (J : Nat → Nat → Int64) (R : Nat → Nat → Nat), 4 - n' = q → n.toInt = n' → n' ≤ 4 → aGood (124, I, J, R) → aFr (aMod 332) h0.1 (124, I, J, R) → ∀ w, aT L xs (d + 1) 332 h0 187 [.ref 86, .int n, w] [] (124, I, J, R) := by
  intro q
  induction q with
  | zero =>
    intro n n' I J R h1 h2 h3 hg hf w
    have hy := good_int hg 88 2 rfl
    have hy2 : (aRng 88 2) = (0, 4) := rfl
    rw [hy2] at hy
    dsimp only at hy
    refine aT_of (fun hk => st_g (gd_of hg) (by omega) hk) ?_
    refine ⟨_, _, st_t (gd_of hg), post1 (cs := (none, [], [], [])) (List.mem_singleton.mpr rfl) ?_ ?_ (cok_v fok0)⟩
    · exact (gd_I (gd_I (gd_I (gd_I (gd_I (gd_I (gd_I (gd_I (gd_I (gd_I (gd_I (gd_I (gd_I (gd_I (gd_I (gd_I (gd_I (gd_I (gd_I (gd_I hg (by decide) (by decide)) (by decide) (by decide)) (by decide) (by decide)) (by decide) (by decide)) (by decide) (by decide)) (by decide) (by decide)) (by decide) (by decide)) (by decide) (by decide)) (by decide) (by decide)) (by decide) (by decide)) (by decide) (by decide)) (by decide) (by decide)) (by decide) (by decide)) (by decide) (by decide)) (by decide) (by decide)) (by decide) (by decide)) (by decide) (by decide)) (by decide) (by decide)) (by decide) (by decide)) (by decide) (by decide))
    · exact (fr_uI (fr_uI (fr_uI (fr_uI (fr_uI (fr_uI (fr_uI (fr_uI (fr_uI (fr_uI (fr_uI (fr_uI (fr_uI (fr_uI (fr_uI (fr_uI (fr_uI (fr_uI (fr_uI (fr_uI hf rfl) rfl) rfl) rfl) rfl) rfl) rfl) rfl) rfl) rfl) rfl) rfl) rfl) rfl) rfl) rfl) rfl) rfl) rfl) rfl)
  | succ q ih =>
    intro n n' I J R h1 h2 h3 hg hf w
    have hy := good_int hg 88 2 rfl
    have hy2 : (aRng 88 2) = (0, 4) := rfl
    rw [hy2] at hy
    dsimp only at hy
    by_cases hn : n.toInt ≥ (I 88 2).toInt
    · refine aT_of (fun hk => st_g (gd_of hg) hn hk) ?_
      refine ⟨_, _, st_t (gd_of hg), post1 (cs := (none, [], [], [])) (List.mem_singleton.mpr rfl) ?_ ?_ (cok_v fok0)⟩
      · exact (gd_I (gd_I (gd_I (gd_I (gd_I (gd_I (gd_I (gd_I (gd_I (gd_I (gd_I (gd_I (gd_I (gd_I (gd_I (gd_I (gd_I (gd_I (gd_I (gd_I hg (by decide) (by decide)) (by decide) (by decide)) (by decide) (by decide)) (by decide) (by decide)) (by decide) (by decide)) (by decide) (by decide)) (by decide) (by decide)) (by decide) (by decide)) (by decide) (by decide)) (by decide) (by decide)) (by decide) (by decide)) (by decide) (by decide)) (by decide) (by decide)) (by decide) (by decide)) (by decide) (by decide)) (by decide) (by decide)) (by decide) (by decide)) (by decide) (by decide)) (by decide) (by decide)) (by decide) (by decide))
      · exact (fr_uI (fr_uI (fr_uI (fr_uI (fr_uI (fr_uI (fr_uI (fr_uI (fr_uI (fr_uI (fr_uI (fr_uI (fr_uI (fr_uI (fr_uI (fr_uI (fr_uI (fr_uI (fr_uI (fr_uI hf rfl) rfl) rfl) rfl) rfl) rfl) rfl) rfl) rfl) rfl) rfl) rfl) rfl) rfl) rfl) rfl) rfl) rfl) rfl) rfl)
    · have ei := i_add1 (x := n) (by omega)
      obtain ⟨v1, ⟨n1, I1, J1, R1⟩, he, hg1, hf1, cs, hcs, hc⟩ := hk L xs d [.ref 86, .int (I 98 n.toNatClampNeg)] (124, I, J, R) (Nat.zero_le _) hg ⟨g0_r (by decide), g0_i (aw _).1 (aw _).2, rfl⟩ fok0
      have e1 : n1 = 124 := hg1.1
      subst e1
      have hcs2 := List.mem_singleton.mp hcs
      subst hcs2
      obtain ⟨⟨v2, q1, x, q2, q3, q4⟩, -, -, -⟩ := hc
      subst q1
      subst q2
      refine aT_of (fun hk => st_h (gd_of hg) (by omega) (by omega) (by omega) he (gd_of hg1) (by omega) (by omega) hk) (ih (n + 1) (n' + 1) _ J1 R1 (by omega) (by omega) (by omega) (gd_I (c := 103) (k := n.toNatClampNeg) (v := x) hg1 q3 q4) (fr_uI (aFr_trans rfl hf hf1) (md (n := 286) rfl rfl)) _)
theorem okh_332 (hkn : ∀ n, n < 332 → aOK n) : aOK 332 := by
  intro L xs d vs h hd hg hA hF
  obtain ⟨n0, I, J, R⟩ := h
  have e1 : n0 = 124 := hg.1
  subst e1
  have e2 := args_R (c := 86) hA
  subst e2
  have hd7 : 3 ≤ d := hd
  obtain ⟨d, rfl⟩ : ∃ e, d = e + 1 := ⟨d - 1, by omega⟩
  have ff := aFr_refl (aMod 332) (124, I, J, R)
  obtain ⟨I1, c1, f1, k1⟩ := comes_run (L := L) (xs := xs) (d := d) (I := I) (J := J) (R := R) 88 6 3 3 (by decide) rfl rfl (by decide) (by decide)
  have g1 := comes_good hg f1 k1 (fun k hk => match k, hk with | 0, _ => ⟨hasb_s rfl, rfl⟩ | 1, _ => ⟨hasb_s rfl, rfl⟩ | 2, _ => ⟨hasb_s rfl, rfl⟩ | k + 3, h => by omega)
  have r1 : aFr (aMod 332) (124, I, J, R) (124, I1, J, R) := row_fr ff f1 (fun k' hm => match k', hm with | 0, h => by cases h | 1, h => by cases h | 2, h => by cases h | q + 3, _ => by rw [k1, if_neg (by omega)])
  obtain ⟨I2, c2, f2, k2⟩ := comes_run (L := L) (xs := xs) (d := d) (I := I1) (J := J) (R := R) 90 14 7 7 (by decide) rfl rfl (by decide) (by decide)
  have g2 := comes_good g1 f2 k2 (fun k hk => ⟨show 7 + k < 14 by omega, rfl⟩)
  have r2 : aFr (aMod 332) (124, I, J, R) (124, I2, J, R) := row_fr r1 f2 (fun k' hm => by rw [(md (n := 273) rfl rfl)] at hm; cases hm)
  obtain ⟨I3, c3, f3, k3⟩ := comes_run (L := L) (xs := xs) (d := d) (I := I2) (J := J) (R := R) 91 14 7 7 (by decide) rfl rfl (by decide) (by decide)
  have g3 := comes_good g2 f3 k3 (fun k hk => ⟨show 7 + k < 14 by omega, rfl⟩)
  have r3 : aFr (aMod 332) (124, I, J, R) (124, I3, J, R) := row_fr r2 f3 (fun k' hm => by rw [(md (n := 274) rfl rfl)] at hm; cases hm)
  obtain ⟨I4, c4, f4, k4⟩ := comes_run (L := L) (xs := xs) (d := d) (I := I3) (J := J) (R := R) 92 32 16 16 (by decide) rfl rfl (by decide) (by decide)
  have g4 := comes_good g3 f4 k4 (fun k hk => ⟨show 16 + k < 32 by omega, rfl⟩)
  have r4 : aFr (aMod 332) (124, I, J, R) (124, I4, J, R) := row_fr r3 f4 (fun k' hm => by rw [(md (n := 275) rfl rfl)] at hm; cases hm)
  obtain ⟨I5, c5, f5, k5⟩ := comes_run (L := L) (xs := xs) (d := d) (I := I4) (J := J) (R := R) 93 32 16 16 (by decide) rfl rfl (by decide) (by decide)
  have g5 := comes_good g4 f5 k5 (fun k hk => ⟨show 16 + k < 32 by omega, rfl⟩)
  have r5 : aFr (aMod 332) (124, I, J, R) (124, I5, J, R) := row_fr r4 f5 (fun k' hm => by rw [(md (n := 276) rfl rfl)] at hm; cases hm)
  obtain ⟨I6, c6, f6, k6⟩ := comes_run (L := L) (xs := xs) (d := d) (I := I5) (J := J) (R := R) 94 32 16 16 (by decide) rfl rfl (by decide) (by decide)
  have g6 := comes_good g5 f6 k6 (fun k hk => ⟨show 16 + k < 32 by omega, rfl⟩)
  have r6 : aFr (aMod 332) (124, I, J, R) (124, I6, J, R) := row_fr r5 f6 (fun k' hm => by rw [(md (n := 277) rfl rfl)] at hm; cases hm)
  obtain ⟨I7, c7, f7, k7⟩ := comes_run (L := L) (xs := xs) (d := d) (I := I6) (J := J) (R := R) 95 32 16 16 (by decide) rfl rfl (by decide) (by decide)
  have g7 := comes_good g6 f7 k7 (fun k hk => ⟨show 16 + k < 32 by omega, rfl⟩)
  have r7 : aFr (aMod 332) (124, I, J, R) (124, I7, J, R) := row_fr r6 f7 (fun k' hm => by rw [(md (n := 278) rfl rfl)] at hm; cases hm)
  obtain ⟨I8, c8, f8, k8⟩ := comes_run (L := L) (xs := xs) (d := d) (I := I7) (J := J) (R := R) 96 8 4 4 (by decide) rfl rfl (by decide) (by decide)
  have g8 := comes_good g7 f8 k8 (fun k hk => ⟨show 4 + k < 8 by omega, rfl⟩)
  have r8 : aFr (aMod 332) (124, I, J, R) (124, I8, J, R) := row_fr r7 f8 (fun k' hm => by rw [(md (n := 279) rfl rfl)] at hm; cases hm)
  obtain ⟨I9, c9, f9, k9⟩ := comes_run (L := L) (xs := xs) (d := d) (I := I8) (J := J) (R := R) 97 8 4 4 (by decide) rfl rfl (by decide) (by decide)
  have g9 := comes_good g8 f9 k9 (fun k hk => ⟨show 4 + k < 8 by omega, rfl⟩)
  have r9 : aFr (aMod 332) (124, I, J, R) (124, I9, J, R) := row_fr r8 f9 (fun k' hm => by rw [(md (n := 280) rfl rfl)] at hm; cases hm)
  obtain ⟨I10, c10, f10, k10⟩ := comes_run (L := L) (xs := xs) (d := d) (I := I9) (J := J) (R := R) 98 8 4 4 (by decide) rfl rfl (by decide) (by decide)
  have g10 := comes_good g9 f10 k10 (fun k hk => ⟨show 4 + k < 8 by omega, rfl⟩)
  have r10 : aFr (aMod 332) (124, I, J, R) (124, I10, J, R) := row_fr r9 f10 (fun k' hm => by rw [(md (n := 281) rfl rfl)] at hm; cases hm)
  obtain ⟨I11, c11, f11, k11⟩ := comes_run (L := L) (xs := xs) (d := d) (I := I10) (J := J) (R := R) 99 8 4 4 (by decide) rfl rfl (by decide) (by decide)
  have g11 := comes_good g10 f11 k11 (fun k hk => ⟨show 4 + k < 8 by omega, rfl⟩)
  have r11 : aFr (aMod 332) (124, I, J, R) (124, I11, J, R) := row_fr r10 f11 (fun k' hm => by rw [(md (n := 282) rfl rfl)] at hm; cases hm)
  obtain ⟨I12, c12, f12, k12⟩ := comes_run (L := L) (xs := xs) (d := d) (I := I11) (J := J) (R := R) 100 8 4 4 (by decide) rfl rfl (by decide) (by decide)
  have g12 := comes_good g11 f12 k12 (fun k hk => ⟨show 4 + k < 8 by omega, rfl⟩)
  have r12 : aFr (aMod 332) (124, I, J, R) (124, I12, J, R) := row_fr r11 f12 (fun k' hm => by rw [(md (n := 283) rfl rfl)] at hm; cases hm)
  have hy := good_int g12 88 1 rfl
  have hy2 : (aRng 88 1) = (0, 16) := rfl
  rw [hy2] at hy
  dsimp only at hy
  obtain ⟨M, hM⟩ := Int.eq_ofNat_of_zero_le hy.1
  have gz := gd_I (c := 86) (k := 26) (v := 0) g12 (by decide) (by decide)
  have rz : aFr (aMod 332) (124, I, J, R) (124, uI I12 86 26 0, J, R) := fr_uI r12 rfl
  refine aT_of (fun hk => st_0 (gd_of hg) c1 c2 c3 c4 c5 c6 c7 c8 c9 c10 c11 c12 hk) ?_
  refine stO (I0 := I12) (M := M) hM (by omega) _ rfl ?_ _ 0 0 _ rfl rfl (Nat.zero_le _) ⟨gz, rz, rfl, fun _ => rfl, rfl⟩ _
  intro I' hI' u w
  exact aT_of (fun hk => st_f (gd_of hI'.1) hk) (stN (hkn 5 (by decide)) _ 0 0 I' J R rfl rfl (by decide) hI'.1 hI'.2.1 _)
