/-! rows: loads and stores -/
theorem clamp_s {i : Int32} (h : 0 ≤ i.toInt) : (i.toNatClampNeg : Int) = i.toInt := Int.toNat_of_nonneg h
theorem xin_ok {α : Type} {i : Int32} {n : Nat} {r : Option α} (h1 : 0 ≤ i.toInt) (h2 : i.toInt < n) : xin i n r = r := by
  unfold xin
  rw [if_neg]
  rintro (z | z)
  · have := Int32.lt_iff_toInt_lt.mp z
    have e : (0 : Int32).toInt = 0 := rfl
    omega
  · have := clamp_s h1
    omega
theorem idx_s {cs : List Nat} {ok : FieldType → Bool} {a b : Int} {c : Nat} (h : aIdx cs ok a b = true) (hc : c ∈ cs) : ∃ t n, c < 124 ∧ xsh c = some (.inr (t, n)) ∧ ok t = true ∧ 0 ≤ a ∧ b < (n : Int) := by
  unfold aIdx at h
  rw [List.all_eq_true] at h
  obtain ⟨t, n, h1, h2, h3, h4⟩ := aArr_s (h c hc)
  rw [Bool.and_eq_true] at h4
  have := ai_le.mp h4.2
  exact ⟨t, n, h1, h2, h3, ai_le.mp h4.1, by omega⟩
section AM
variable {L : Nat} {xs : Nat → Int32} {d j : Nat} {h0 : aE} {base : aK → Int} {pc : Nat} {alv ast r : List aV} {fs : aFs} {tr : aTr} {lv st s : List Value} {h : xH} {l : List (Nat × aS)}
theorem g_take {cs : List Nat} {c i : Nat} {a b : Int} (ht : aTab) (hg : aGood h) (hF : aFok h fs) (hcs : c ∈ cs) (hh : aHas c i) {t : FieldType} {n : Nat} (hsh : xsh c = some (.inr (t, n))) (h0 : 0 ≤ a) (h1 : a ≤ i) (h2 : (i : Int) ≤ b) : aG lv h (aTake cs a b fs) (.int (h.2.1 c i)) := by
  have h4 := hg.2.1 c i hh
  have h5 := ht.2.1 c i t n hsh
  have h6 := sub2_s h5 h4.1 h4.2
  unfold aTake
  split
  · rename_i e
    have ec : c = e := List.mem_singleton.mp hcs
    subst ec
    cases hab : aieq a b with
    | true =>
      have e1 := ai_eq.mp hab
      have e2 : a.toNat = i := by omega
      rw [e2]
      have := fk_s hg hF hh (isR_arr hsh)
      exact ⟨_, rfl, this.1, this.2, _, rfl, by omega⟩
    | false =>
      show aG lv h (Sum.inr (Sum.inl ((aRow c a b).1, (aRow c a b).2, none))) (.int (h.2.1 c i))
      unfold aRow
      cases hfi : aFine c && aile (b - a) 100 with
      | true =>
        have h3 := hull_s (f := aRng c) (ixs_s h1 h2 h0)
        exact ⟨_, rfl, Int.le_trans h3.1 h4.1, Int.le_trans h4.2 h3.2, trivial⟩
      | false => exact ⟨_, rfl, h6.1, h6.2, trivial⟩
  · have h3 := hull_s (f := aAll) hcs
    exact ⟨_, rfl, Int.le_trans h3.1 h6.1, Int.le_trans h6.2 h3.2, trivial⟩
theorem j_iaload {len a b : Nat} {w : Nat} (ht : aTab) (hq : xins (aJ j) pc = some (.iaload, len, a, b, w)) (ha : aS_iaload j len a b pc (alv, ast, fs, tr) = some l) (hs : aSt j h0 base (alv, ast, fs, tr) lv st h) (kk : ∀ s ∈ l, ∀ lv1 st1 h1, aSt j h0 base s.2 lv1 st1 h1 → aT L xs d j h0 s.1 lv1 st1 h1) (hones : ∀ k, k < 16 → 0 ≤ (xones k).toInt ∧ (xones k).toInt ≤ 400) : aT L xs d j h0 pc lv st h := by
  obtain ⟨hg, hf, hL, hS, hF, hT⟩ := hs
  unfold aS_iaload at ha
  dsimp only at ha hL hS hF hT
  obtain ⟨hl, ha1⟩ := aIf_s ha
  clear ha
  have hlen : len = 1 := Nat.eq_of_beq_eq_true hl
  subst hlen
  split at ha1
  · rename_i lo hi o cs r
    obtain ⟨hi1, h1⟩ := aIf_s ha1
    obtain ⟨i, s1, rfl, u1, u2, -, hS1⟩ := s_int hS
    obtain ⟨c, s, rfl, hcs, hS2⟩ := s_ref hS1
    obtain ⟨t, n, hc1, hc2, hc3, hc4, hc5⟩ := idx_s hi1 hcs
    have hi0 : 0 ≤ i.toInt := by omega
    have hcl := clamp_s hi0
    have hhas : aHas c i.toNatClampNeg := by unfold aHas; rw [hc2]; show i.toNatClampNeg < n; omega
    refine aT_step (pc1 := pc + 1) (lv1 := lv) (st1 := .int (h.2.1 c i.toNatClampNeg) :: s) (h1 := h) hq ?_ ?_
    · show x1 1 1 (xarr h c _) = _
      rw [xarr_ok hg hc1 hc2, hc3]
      show x1 1 1 (xin i n _) = _
      rw [xin_ok hi0 (by omega)]
      rfl
    · exact kk _ (aGo_s h1) _ _ _ ⟨hg, hf, hL, ⟨g_take ht hg hF hcs hhas hc2 (by omega) (by omega) (by omega), hS2⟩, hF, hT⟩
  · rename_i lo hi o r
    obtain ⟨hi1, h1⟩ := aIf_s ha1
    rw [Bool.and_eq_true] at hi1
    have b1 := ai_le.mp hi1.1
    have b2 := ai_le.mp hi1.2
    obtain ⟨i, s1, rfl, u1, u2, -, hS1⟩ := s_int hS
    obtain ⟨c, s, rfl, hcs, hS2⟩ := s_txt hS1
    have ec := List.mem_singleton.mp hcs
    subst ec
    have hi0 : 0 ≤ i.toInt := by omega
    have hcl := clamp_s hi0
    have ho := hones i.toNatClampNeg (by omega)
    refine aT_step (pc1 := pc + 1) (lv1 := lv) (st1 := .int (xones i.toNatClampNeg) :: s) (h1 := h) hq ?_ ?_
    · show x1 1 1 (xin i 16 _) = _
      rw [xin_ok hi0 (by omega)]
      rfl
    · exact kk _ (aGo_s h1) _ _ _ ⟨hg, hf, hL, ⟨⟨_, rfl, ho.1, ho.2, trivial⟩, hS2⟩, hF, hT⟩
  · cases ha1
theorem j_baload {len a b : Nat} {w : Nat} (ht : aTab) (hq : xins (aJ j) pc = some (.baload, len, a, b, w)) (ha : aS_baload j len a b pc (alv, ast, fs, tr) = some l) (hs : aSt j h0 base (alv, ast, fs, tr) lv st h) (kk : ∀ s ∈ l, ∀ lv1 st1 h1, aSt j h0 base s.2 lv1 st1 h1 → aT L xs d j h0 s.1 lv1 st1 h1) : aT L xs d j h0 pc lv st h := by
  obtain ⟨hg, hf, hL, hS, hF, hT⟩ := hs
  unfold aS_baload at ha
  dsimp only at ha hL hS hF hT
  obtain ⟨hl, ha1⟩ := aIf_s ha
  clear ha
  have hlen : len = 1 := Nat.eq_of_beq_eq_true hl
  subst hlen
  split at ha1
  · rename_i lo hi o cs r
    obtain ⟨hi1, h1⟩ := aIf_s ha1
    obtain ⟨i, s1, rfl, u1, u2, -, hS1⟩ := s_int hS
    obtain ⟨c, s, rfl, hcs, hS2⟩ := s_ref hS1
    obtain ⟨t, n, hc1, hc2, hc3, hc4, hc5⟩ := idx_s hi1 hcs
    have hi0 : 0 ≤ i.toInt := by omega
    have hcl := clamp_s hi0
    have hhas : aHas c i.toNatClampNeg := by unfold aHas; rw [hc2]; show i.toNatClampNeg < n; omega
    refine aT_step (pc1 := pc + 1) (lv1 := lv) (st1 := .int (h.2.1 c i.toNatClampNeg) :: s) (h1 := h) hq ?_ ?_
    · show x1 1 1 (xarr h c _) = _
      rw [xarr_ok hg hc1 hc2]
      show x1 1 1 (bif xisB t || xisZ t then _ else _) = _
      rw [hc3]
      show x1 1 1 (xin i n _) = _
      rw [xin_ok hi0 (by omega)]
      rfl
    · exact kk _ (aGo_s h1) _ _ _ ⟨hg, hf, hL, ⟨g_take ht hg hF hcs hhas hc2 (by omega) (by omega) (by omega), hS2⟩, hF, hT⟩
  · cases ha1
theorem j_laload {len a b : Nat} {w : Nat} (hq : xins (aJ j) pc = some (.laload, len, a, b, w)) (ha : aS_laload j len a b pc (alv, ast, fs, tr) = some l) (hs : aSt j h0 base (alv, ast, fs, tr) lv st h) (kk : ∀ s ∈ l, ∀ lv1 st1 h1, aSt j h0 base s.2 lv1 st1 h1 → aT L xs d j h0 s.1 lv1 st1 h1) : aT L xs d j h0 pc lv st h := by
  obtain ⟨hg, hf, hL, hS, hF, hT⟩ := hs
  unfold aS_laload at ha
  dsimp only at ha hL hS hF hT
  obtain ⟨hl, ha1⟩ := aIf_s ha
  clear ha
  have hlen : len = 1 := Nat.eq_of_beq_eq_true hl
  subst hlen
  split at ha1
  · rename_i lo hi o cs r
    obtain ⟨hi1, h1⟩ := aIf_s ha1
    obtain ⟨i, s1, rfl, u1, u2, -, hS1⟩ := s_int hS
    obtain ⟨c, s, rfl, hcs, hS2⟩ := s_ref hS1
    obtain ⟨t, n, hc1, hc2, hc3, hc4, hc5⟩ := idx_s hi1 hcs
    have hi0 : 0 ≤ i.toInt := by omega
    refine aT_step (pc1 := pc + 1) (lv1 := lv) (st1 := .long (h.2.2.1 c i.toNatClampNeg) :: s) (h1 := h) hq ?_ ?_
    · show x1 1 1 (xarr h c _) = _
      rw [xarr_ok hg hc1 hc2, hc3]
      show x1 1 1 (xin i n _) = _
      rw [xin_ok hi0 (by omega)]
      rfl
    · exact kk _ (aGo_s h1) _ _ _ ⟨hg, hf, hL, ⟨g_lful _, hS2⟩, hF, hT⟩
  · cases ha1
theorem j_iastore {len a b : Nat} {w : Nat} (ht : aTab) (hq : xins (aJ j) pc = some (.iastore, len, a, b, w)) (ha : aS_iastore j len a b pc (alv, ast, fs, tr) = some l) (hs : aSt j h0 base (alv, ast, fs, tr) lv st h) (kk : ∀ s ∈ l, ∀ lv1 st1 h1, aSt j h0 base s.2 lv1 st1 h1 → aT L xs d j h0 s.1 lv1 st1 h1) : aT L xs d j h0 pc lv st h := by
  obtain ⟨hg, hf, hL, hS, hF, hT⟩ := hs
  unfold aS_iastore at ha
  dsimp only at ha hL hS hF hT
  obtain ⟨hl, ha1⟩ := aIf_s ha
  clear ha
  have hlen : len = 1 := Nat.eq_of_beq_eq_true hl
  subst hlen
  split at ha1
  · rename_i vlo vhi vo lo hi o cs r
    obtain ⟨hi1, h1⟩ := aIf_s ha1
    obtain ⟨x, s0, rfl, v1, v2, v3, hS0⟩ := s_int hS
    obtain ⟨i, s1, rfl, u1, u2, -, hS1⟩ := s_int hS0
    obtain ⟨c, s, rfl, hcs, hS2⟩ := s_ref hS1
    obtain ⟨t, n, hc1, hc2, hc3, hc4, hc5⟩ := idx_s hi1 hcs
    have hi0 : 0 ≤ i.toInt := by omega
    have hcl := clamp_s hi0
    refine aT_step (pc1 := pc + 1) (lv1 := lv) (st1 := s) (h1 := xsetI h c i.toNatClampNeg x) hq ?_ ?_
    · show x1 1 1 (xarr h c _) = _
      rw [xarr_ok hg hc1 hc2, hc3]
      show x1 1 1 (xin i n _) = _
      rw [xin_ok hi0 (by omega)]
      rfl
    · exact j_putA h1 hcs (by omega) (by omega) (by omega) ht hc2 hg hf hL hS2 hF hT v1 v2 (fun q hq => by have e : vo = some q := hq; rw [← e]; exact v3) kk
  · cases ha1
theorem j_lastore {len a b : Nat} {w : Nat} (ht : aTab) (hq : xins (aJ j) pc = some (.lastore, len, a, b, w)) (ha : aS_lastore j len a b pc (alv, ast, fs, tr) = some l) (hs : aSt j h0 base (alv, ast, fs, tr) lv st h) (kk : ∀ s ∈ l, ∀ lv1 st1 h1, aSt j h0 base s.2 lv1 st1 h1 → aT L xs d j h0 s.1 lv1 st1 h1) : aT L xs d j h0 pc lv st h := by
  obtain ⟨hg, hf, hL, hS, hF, hT⟩ := hs
  unfold aS_lastore at ha
  dsimp only at ha hL hS hF hT
  obtain ⟨hl, ha1⟩ := aIf_s ha
  clear ha
  have hlen : len = 1 := Nat.eq_of_beq_eq_true hl
  subst hlen
  split at ha1
  · rename_i vlo vhi lo hi o cs r
    obtain ⟨hi2, h1⟩ := aIf_s ha1
    rw [Bool.and_eq_true] at hi2
    obtain ⟨hi1, hmm⟩ := hi2
    rw [List.all_eq_true] at hmm
    obtain ⟨x, s0, rfl, v1, v2, hS0⟩ := s_lng hS
    obtain ⟨i, s1, rfl, u1, u2, -, hS1⟩ := s_int hS0
    obtain ⟨c, s, rfl, hcs, hS2⟩ := s_ref hS1
    obtain ⟨t, n, hc1, hc2, hc3, hc4, hc5⟩ := idx_s hi1 hcs
    have hi0 : 0 ≤ i.toInt := by omega
    have hcl := clamp_s hi0
    refine aT_step (pc1 := pc + 1) (lv1 := lv) (st1 := s) (h1 := xsetL h c i.toNatClampNeg x) hq ?_ ?_
    · show x1 1 1 (xarr h c _) = _
      rw [xarr_ok hg hc1 hc2, hc3]
      show x1 1 1 (xin i n _) = _
      rw [xin_ok hi0 (by omega)]
      rfl
    · exact kk _ (aGo_s h1) _ _ _ ⟨good_L hg, fr_L hf (modR_s ht hc2 (hmm c hcs) (by omega) (by omega) (by omega)), hL, gs_I (h := h) (h' := xsetL h c i.toNatClampNeg x) rfl _ _ hS2, fok_L (h' := xsetL h c i.toNatClampNeg x) hF rfl rfl, ts_I (h := h) (h' := xsetL h c i.toNatClampNeg x) rfl hT⟩
  · cases ha1
end AM
