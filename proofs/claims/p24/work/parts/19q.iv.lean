/-! constants and returns -/
section AX
variable {kn : List Nat} {L : Nat} {xs : Nat → Int32} {d j : Nat} {h0 : xH} {base : aK → Int} {pc : Nat} {alv ast r : List aV} {fs : aFs} {tr : aTr} {lv st s : List Value} {h : xH} {l : List (Nat × aS)} {S : aS}
theorem j_getstatic {n : Nat} {len a b : Nat} {w : Nat} (hq : xins j pc = some (.getstatic n, len, a, b, w)) (ha : aS_getstatic kn j len a b pc S = some l) (hs : aSt j h0 base S lv st h) (kk : ∀ s ∈ l, ∀ lv1 st1 h1, aSt j h0 base s.2 lv1 st1 h1 → aT L xs d j h0 s.1 lv1 st1 h1) : aT L xs d j h0 pc lv st h := by
  obtain ⟨hg, hf, hL, hS, hF, hT⟩ := hs
  unfold aS_getstatic at ha
  obtain ⟨hl, ha1⟩ := aIf_s ha
  have hlen : len = 3 := Nat.eq_of_beq_eq_true hl
  subst hlen
  exact aT_step (pc1 := pc + 3) (lv1 := lv) (st1 := .retAddr 1 :: st) (h1 := h) hq rfl (kk _ (aGo_s ha1) _ _ _ ⟨hg, hf, hL, ⟨⟨1, rfl, List.mem_singleton.mpr rfl⟩, hS⟩, hF, hT⟩)
theorem j_ldc2_w {n : Nat} {len a b : Nat} {w : Nat} (hq : xins j pc = some (.ldc2_w n, len, a, b, w)) (ha : aS_ldc2_w kn j len a b pc S = some l) (hs : aSt j h0 base S lv st h) (kk : ∀ s ∈ l, ∀ lv1 st1 h1, aSt j h0 base s.2 lv1 st1 h1 → aT L xs d j h0 s.1 lv1 st1 h1) : aT L xs d j h0 pc lv st h := by
  obtain ⟨hg, hf, hL, hS, hF, hT⟩ := hs
  unfold aS_ldc2_w at ha
  obtain ⟨hl, ha1⟩ := aIf_s ha
  have hlen : len = 3 := Nat.eq_of_beq_eq_true hl
  subst hlen
  exact aT_step (pc1 := pc + 3) (lv1 := lv) (st1 := .long (Int64.ofNat a) :: st) (h1 := h) hq rfl (kk _ (aGo_s ha1) _ _ _ ⟨hg, hf, hL, ⟨⟨_, rfl, Int.le_refl _, Int.le_refl _⟩, hS⟩, hF, hT⟩)
theorem j_return {len a b : Nat} {w : Nat} (hq : xins j pc = some (.return_, len, a, b, w)) (ha : aS_return_ kn j len a b pc (alv, ast, fs, tr) = some l) (hs : aSt j h0 base (alv, ast, fs, tr) lv st h) : aT L xs d j h0 pc lv st h := by
  obtain ⟨hg, hf, hL, hS, hF, hT⟩ := hs
  unfold aS_return_ at ha
  dsimp only at ha hS
  obtain ⟨hl, ha1⟩ := aIf_s ha
  clear ha
  have hlen : len = 1 := Nat.eq_of_beq_eq_true hl
  subst hlen
  cases ast with
  | cons a r => cases ha1
  | nil =>
    have e : st = [] := hS
    subst e
    dsimp only at ha1
    cases ho : aOut j with
    | some a => rw [ho] at ha1; cases ha1
    | none =>
      rw [ho] at ha1
      dsimp only at ha1
      cases hv : xmv j with
      | some t => rw [hv] at ha1; cases ha1
      | none =>
        refine aT_ret (v := none) hq ?_ ⟨hg, hf, ?_⟩
        · show x1 1 1 (match xmv j with | none => some (Sum.inr (Sum.inl none)) | _ => none) = _
          rw [hv]
          rfl
        · unfold aRes
          rw [ho]
end AX
