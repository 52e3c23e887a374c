/-! constants and returns -/
section AX
variable {L : Nat} {xs : Nat → Int32} {d j : Nat} {h0 : aE} {base : aK → Int} {pc : Nat} {alv ast r : List aV} {fs : aFs} {tr : aTr} {lv st s : List Value} {h : xH} {l : List (Nat × aS)} {S : aS}
theorem j_getstatic {n : Nat} {len a b : Nat} {w : Nat} (hq : xins (aJ j) pc = some (.getstatic n, len, a, b, w)) (ha : aS_getstatic j len a b pc S = some l) (hs : aSt j h0 base S lv st h) (kk : ∀ s ∈ l, ∀ lv1 st1 h1, aSt j h0 base s.2 lv1 st1 h1 → aT L xs d j h0 s.1 lv1 st1 h1) : aT L xs d j h0 pc lv st h := by
  obtain ⟨hg, hf, hL, hS, hF, hT⟩ := hs
  unfold aS_getstatic at ha
  obtain ⟨hl, ha1⟩ := aIf_s ha
  have hlen : len = 3 := Nat.eq_of_beq_eq_true hl
  subst hlen
  exact aT_step (pc1 := pc + 3) (lv1 := lv) (st1 := .retAddr 1 :: st) (h1 := h) hq rfl (kk _ (aGo_s ha1) _ _ _ ⟨hg, hf, hL, ⟨⟨1, rfl, List.mem_singleton.mpr rfl⟩, hS⟩, hF, hT⟩)
theorem j_ldc2_w {n : Nat} {len a b : Nat} {w : Nat} (hq : xins (aJ j) pc = some (.ldc2_w n, len, a, b, w)) (ha : aS_ldc2_w j len a b pc S = some l) (hs : aSt j h0 base S lv st h) (kk : ∀ s ∈ l, ∀ lv1 st1 h1, aSt j h0 base s.2 lv1 st1 h1 → aT L xs d j h0 s.1 lv1 st1 h1) : aT L xs d j h0 pc lv st h := by
  obtain ⟨hg, hf, hL, hS, hF, hT⟩ := hs
  unfold aS_ldc2_w at ha
  obtain ⟨hl, ha1⟩ := aIf_s ha
  have hlen : len = 3 := Nat.eq_of_beq_eq_true hl
  subst hlen
  exact aT_step (pc1 := pc + 3) (lv1 := lv) (st1 := .long (Int64.ofNat a) :: st) (h1 := h) hq rfl (kk _ (aGo_s ha1) _ _ _ ⟨hg, hf, hL, ⟨⟨_, rfl, Int.le_refl _, Int.le_refl _⟩, hS⟩, hF, hT⟩)
theorem ule_s {us : aU} {q : (Nat × Nat) × Int × Bool} {hh h : xH} (hu : aUok hh h us) (hq : aUle us q = true) : aUq hh h q := by
  obtain ⟨p, hp, h1⟩ := List.any_eq_true.mp hq
  rw [Bool.and_eq_true] at h1
  have e := aPeq_s h1.1
  have h2 := hu p hp
  unfold aUq at h2 ⊢
  rw [e] at h2
  have h3 := h1.2
  cases hb : q.2.2 with
  | true =>
    rw [hb] at h3
    have h4 : (p.2.2 && aieq p.2.1 q.2.1) = true := h3
    rw [Bool.and_eq_true] at h4
    have e2 := ai_eq.mp h4.2
    have h5 := h2.2 h4.1
    exact ⟨by omega, fun _ => by omega⟩
  | false =>
    rw [hb] at h3
    have h4 := ai_le.mp h3
    exact ⟨by omega, fun hh => by cases hh⟩
theorem fits_s {a : Option aV} {v : Option Value} {cs : aCs} (hs : aSt j h0 base S lv st h) (hr : aFits a S cs = true) (hv : aRes a v) : aCok h0 v h cs := by
  obtain ⟨hg, hf, hL, hS, hF, hT⟩ := hs
  unfold aFits at hr
  rw [Bool.and_eq_true, Bool.and_eq_true, Bool.and_eq_true, List.all_eq_true, List.all_eq_true, List.all_eq_true] at hr
  obtain ⟨⟨⟨r1, r2⟩, r3⟩, r4⟩ := hr
  refine ⟨?_, ?_, fun q hq => holds_s hg hF (r3 q hq), fun q hq => ule_s hT.2.2.2 (r4 q hq)⟩
  · unfold aRes at hv ⊢
    cases a with
    | none =>
      cases hc : cs.1 with
      | none => exact hv
      | some u => rw [hc] at r1; cases r1
    | some w =>
      cases hc : cs.1 with
      | none => rw [hc] at r1; cases r1
      | some u =>
        rw [hc] at r1
        obtain ⟨x, e, hx⟩ := hv
        exact ⟨x, e, le_g0 r1 hx⟩
  · intro q hq
    have h1 := r2 q hq
    rw [Bool.and_eq_true] at h1
    have h2 := hT.2.2.1 q.1 (amem_s h1.1)
    have h3 := h1.2
    split at h3
    · rename_i lo hi o hi1
      obtain ⟨v, hv, x, rfl, b1, b2⟩ := hL.2 q.1 _ hi1
      rw [hv] at h2
      exact ⟨x, h2.symm, sub2_s h3 b1 b2⟩
    · cases h3
theorem ret_s {a : Option aV} {v : Option Value} (hs : aSt j h0 base S lv st h) (hr : aRetOk j a S = true) (hv : aRes a v) : aPost j h0 v h := by
  unfold aRetOk at hr
  obtain ⟨cs, hcs, hfit⟩ := List.any_eq_true.mp hr
  exact ⟨hs.1, hs.2.1, cs, hcs, fits_s hs hfit hv⟩
theorem j_return {len a b : Nat} {w : Nat} (hq : xins (aJ j) pc = some (.return_, len, a, b, w)) (ha : aS_return_ j len a b pc (alv, ast, fs, tr) = some l) (hs : aSt j h0 base (alv, ast, fs, tr) lv st h) : aT L xs d j h0 pc lv st h := by
  have hs0 := hs
  obtain ⟨hg, hf, hL, hS, hF, hT⟩ := hs
  unfold aS_return_ at ha
  dsimp only at ha hS
  obtain ⟨hl, ha1⟩ := aIf_s ha
  clear ha
  have hlen : len = 1 := Nat.eq_of_beq_eq_true hl
  subst hlen
  cases ast with
  | cons a r => cases ha1
  | nil =>
    have e : st = [] := hS
    subst e
    obtain ⟨hr, ha2⟩ := aIf_s ha1
    cases hv : xmv (aJ j) with
    | some t => rw [hv] at ha2; cases ha2
    | none =>
      refine aT_ret (v := none) hq ?_ (ret_s hs0 hr rfl)
      show x1 1 1 (match xmv (aJ j) with | none => some (Sum.inr (Sum.inl none)) | _ => none) = _
      rw [hv]
      rfl
end AX
