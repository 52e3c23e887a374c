/-! more returns and constants -/
section AZ
variable {L : Nat} {xs : Nat → Int32} {d j : Nat} {h0 : aE} {base : aK → Int} {pc : Nat} {alv ast r : List aV} {fs : aFs} {tr : aTr} {lv st s : List Value} {h : xH} {l : List (Nat × aS)} {S : aS}
theorem j_lreturn {len a b : Nat} {w : Nat} (hq : xins (aJ j) pc = some (.lreturn, len, a, b, w)) (ha : aS_lreturn j len a b pc (alv, ast, fs, tr) = some l) (hs : aSt j h0 base (alv, ast, fs, tr) lv st h) : aT L xs d j h0 pc lv st h := by
  have hs0 := hs
  obtain ⟨hg, hf, hL, hS, hF, hT⟩ := hs
  unfold aS_lreturn at ha
  dsimp only at ha hS
  obtain ⟨hl, ha1⟩ := aIf_s ha
  clear ha
  have hlen : len = 1 := Nat.eq_of_beq_eq_true hl
  subst hlen
  split at ha1
  · rename_i lo hi
    obtain ⟨x, s, rfl, u1, u2, hS2⟩ := s_lng hS
    have e : s = [] := hS2
    subst e
    obtain ⟨hr0, h2⟩ := aIf_s ha1
    have hr : aPost j h0 (some (.long x)) h := ret_s hs0 hr0 ⟨.long x, rfl, x, rfl, u1, u2⟩
    cases hv : xmv (aJ j) with
    | none => rw [hv] at h2; cases h2
    | some t =>
      rw [hv] at h2
      cases t with
      | long =>
        refine aT_ret (v := some (.long x)) hq ?_ hr
        show x1 1 1 (match xmv (aJ j) with | some .long => some (Sum.inr (Sum.inl (some (Value.long x)))) | _ => none) = _
        rw [hv]
        rfl
      | _ => cases h2
  · cases ha1
theorem j_areturn {len a b : Nat} {w : Nat} (hq : xins (aJ j) pc = some (.areturn, len, a, b, w)) (ha : aS_areturn j len a b pc (alv, ast, fs, tr) = some l) (hs : aSt j h0 base (alv, ast, fs, tr) lv st h) : aT L xs d j h0 pc lv st h := by
  have hs0 := hs
  obtain ⟨hg, hf, hL, hS, hF, hT⟩ := hs
  unfold aS_areturn at ha
  dsimp only at ha hS
  obtain ⟨hl, ha1⟩ := aIf_s ha
  clear ha
  have hlen : len = 1 := Nat.eq_of_beq_eq_true hl
  subst hlen
  split at ha1
  · rename_i cs
    obtain ⟨x, s, rfl, u1, hS2⟩ := s_ref hS
    have e : s = [] := hS2
    subst e
    obtain ⟨hr0, h2⟩ := aIf_s ha1
    have hr : aPost j h0 (some (.ref x)) h := ret_s hs0 hr0 ⟨.ref x, rfl, x, rfl, u1⟩
    cases hv : xmv (aJ j) with
    | none => rw [hv] at h2; cases h2
    | some t =>
      rw [hv] at h2
      cases t with
      | object n =>
        refine aT_ret (v := some (.ref x)) hq ?_ hr
        show x1 1 1 (match xmv (aJ j) with | some (.object _) => some (Sum.inr (Sum.inl (some (Value.ref x)))) | _ => none) = _
        rw [hv]
        rfl
      | _ => cases h2
  · cases ha1
theorem j_ldc_w {n : Nat} {len a b : Nat} {w : Nat} (hq : xins (aJ j) pc = some (.ldc_w n, len, a, b, w)) (ha : aS_ldc_w j len a b pc S = some l) (hs : aSt j h0 base S lv st h) (kk : ∀ s ∈ l, ∀ lv1 st1 h1, aSt j h0 base s.2 lv1 st1 h1 → aT L xs d j h0 s.1 lv1 st1 h1) : aT L xs d j h0 pc lv st h := by
  obtain ⟨hg, hf, hL, hS, hF, hT⟩ := hs
  unfold aS_ldc_w at ha
  obtain ⟨hl, ha1⟩ := aIf_s ha
  rw [Bool.and_eq_true] at hl
  have hlen : len = 3 := Nat.eq_of_beq_eq_true hl.1
  subst hlen
  refine aT_step (pc1 := pc + 3) (lv1 := lv) (st1 := .int (Int32.ofNat a) :: st) (h1 := h) hq ?_ (kk _ (aGo_s ha1) _ _ _ ⟨hg, hf, hL, ⟨g_num _, hS⟩, hF, hT⟩)
  show x1 3 3 (bif Nat.beq b 0 then _ else _) = _
  rw [hl.2]
  rfl
end AZ
