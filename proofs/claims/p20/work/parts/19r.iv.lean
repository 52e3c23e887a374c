/-! returns with a value; constants of one word -/
section AY
variable {L : Nat} {xs : Nat → Int32} {d j : Nat} {h0 : aE} {base : aK → Int} {pc : Nat} {alv ast r : List aV} {fs : aFs} {tr : aTr} {lv st s : List Value} {h : xH} {l : List (Nat × aS)} {S : aS}
theorem j_ireturn {len a b : Nat} {w : Nat} (hq : xins (aJ j) pc = some (.ireturn, len, a, b, w)) (ha : aS_ireturn j len a b pc (alv, ast, fs, tr) = some l) (hs : aSt j h0 base (alv, ast, fs, tr) lv st h) : aT L xs d j h0 pc lv st h := by
  have hs0 := hs
  obtain ⟨hg, hf, hL, hS, hF, hT⟩ := hs
  unfold aS_ireturn at ha
  dsimp only at ha hS
  obtain ⟨hl, ha1⟩ := aIf_s ha
  clear ha
  have hlen : len = 1 := Nat.eq_of_beq_eq_true hl
  subst hlen
  split at ha1
  · rename_i lo hi o
    obtain ⟨x, s, rfl, u1, u2, -, hS2⟩ := s_int hS
    have e : s = [] := hS2
    subst e
    obtain ⟨hr0, h2⟩ := aIf_s ha1
    have hr : aPost j h0 (some (.int x)) h := ret_s hs0 hr0 ⟨.int x, rfl, x, rfl, u1, u2⟩
    cases hv : xmv (aJ j) with
    | none => rw [hv] at h2; cases h2
    | some t =>
      rw [hv] at h2
      cases t with
      | int =>
        refine aT_ret (v := some (.int x)) hq ?_ hr
        show x1 1 1 (match xmv (aJ j) with | some .int => some (Sum.inr (Sum.inl (some (Value.int x)))) | some .boolean => if x = 0 then some (Sum.inr (Sum.inl (some (Value.int x)))) else if x = 1 then some (Sum.inr (Sum.inl (some (Value.int x)))) else none | _ => none) = _
        rw [hv]
        rfl
      | boolean =>
        obtain ⟨h3, h4⟩ := aIf_s h2
        rw [Bool.and_eq_true] at h3
        have b1 := ai_le.mp h3.1
        have b2 := ai_le.mp h3.2
        refine aT_ret (v := some (.int x)) hq ?_ hr
        show x1 1 1 (match xmv (aJ j) with | some .int => some (Sum.inr (Sum.inl (some (Value.int x)))) | some .boolean => if x = 0 then some (Sum.inr (Sum.inl (some (Value.int x)))) else if x = 1 then some (Sum.inr (Sum.inl (some (Value.int x)))) else none | _ => none) = _
        rw [hv]
        show x1 1 1 (if x = 0 then some (Sum.inr (Sum.inl (some (Value.int x)))) else if x = 1 then some (Sum.inr (Sum.inl (some (Value.int x)))) else none) = _
        by_cases e0 : x = 0
        · rw [if_pos e0]; rfl
        · rw [if_neg e0, if_pos]
          · rfl
          · refine Int32.toInt_inj.mp ?_
            have e1 : x.toInt ≠ 0 := fun z => e0 (Int32.toInt_inj.mp z)
            show x.toInt = 1
            omega
      | _ => cases h2
  · cases ha1
theorem j_ldc {n : Nat} {len a b : Nat} {w : Nat} (hq : xins (aJ j) pc = some (.ldc n, len, a, b, w)) (ha : aS_ldc j len a b pc S = some l) (hs : aSt j h0 base S lv st h) (kk : ∀ s ∈ l, ∀ lv1 st1 h1, aSt j h0 base s.2 lv1 st1 h1 → aT L xs d j h0 s.1 lv1 st1 h1) : aT L xs d j h0 pc lv st h := by
  obtain ⟨hg, hf, hL, hS, hF, hT⟩ := hs
  unfold aS_ldc at ha
  obtain ⟨hl, ha1⟩ := aIf_s ha
  have hlen : len = 2 := Nat.eq_of_beq_eq_true hl
  subst hlen
  cases hb : Nat.beq b 0 with
  | true =>
    rw [hb] at ha1
    refine aT_step (pc1 := pc + 2) (lv1 := lv) (st1 := .int (Int32.ofNat a) :: st) (h1 := h) hq ?_ (kk _ (aGo_s ha1) _ _ _ ⟨hg, hf, hL, ⟨g_num _, hS⟩, hF, hT⟩)
    show x1 2 2 (bif Nat.beq b 0 then _ else _) = _
    rw [hb]
    rfl
  | false =>
    rw [hb] at ha1
    refine aT_step (pc1 := pc + 2) (lv1 := lv) (st1 := .retAddr (a + 2) :: st) (h1 := h) hq ?_ (kk _ (aGo_s ha1) _ _ _ ⟨hg, hf, hL, ⟨⟨a + 2, rfl, List.mem_singleton.mpr rfl⟩, hS⟩, hF, hT⟩)
    show x1 2 2 (bif Nat.beq b 0 then _ else _) = _
    rw [hb]
    rfl
end AY
