/-! rows of bytes, switches -/
section BB
variable {L : Nat} {xs : Nat → Int32} {d j : Nat} {h0 : aE} {base : aK → Int} {pc : Nat} {alv ast r : List aV} {fs : aFs} {tr : aTr} {lv st s : List Value} {h : xH} {l : List (Nat × aS)} {S : aS}
theorem nar_b (x : Int32) : -128 ≤ (vp_nar .byte x).toInt ∧ (vp_nar .byte x).toInt ≤ 127 := ai_i2b x
theorem nar_z (x : Int32) : 0 ≤ (vp_nar .boolean x).toInt ∧ (vp_nar .boolean x).toInt ≤ 1 := by
  have h := ai_andr (x := x) (y := 1) (by decide)
  exact ⟨h.1, h.2⟩
theorem j_bastore {len a b : Nat} {w : Nat} (ht : aTab) (hq : xins (aJ j) pc = some (.bastore, len, a, b, w)) (ha : aS_bastore j len a b pc (alv, ast, fs, tr) = some l) (hs : aSt j h0 base (alv, ast, fs, tr) lv st h) (kk : ∀ s ∈ l, ∀ lv1 st1 h1, aSt j h0 base s.2 lv1 st1 h1 → aT L xs d j h0 s.1 lv1 st1 h1) : aT L xs d j h0 pc lv st h := by
  obtain ⟨hg, hf, hL, hS, hF, hT⟩ := hs
  unfold aS_bastore at ha
  dsimp only at ha hL hS hF hT
  obtain ⟨hl, ha1⟩ := aIf_s ha
  clear ha
  have hlen : len = 1 := Nat.eq_of_beq_eq_true hl
  subst hlen
  split at ha1
  · rename_i vlo vhi vo lo hi o cs r
    obtain ⟨x, s0, rfl, v1, v2, v3, hS0⟩ := s_int hS
    obtain ⟨i, s1, rfl, u1, u2, -, hS1⟩ := s_int hS0
    obtain ⟨c, s, rfl, hcs, hS2⟩ := s_ref hS1
    cases hB : aIdx cs xisB lo hi with
    | true =>
      rw [hB] at ha1
      obtain ⟨t, n, hc1, hc2, hc3, hc4, hc5⟩ := idx_s hB hcs
      have hi0 : 0 ≤ i.toInt := by omega
      have hcl := clamp_s hi0
      refine aT_step (pc1 := pc + 1) (lv1 := lv) (st1 := s) (h1 := xsetI h c i.toNatClampNeg (vp_nar .byte x)) hq ?_ ?_
      · show x1 1 1 (xarr h c _) = _
        rw [xarr_ok hg hc1 hc2, hc3]
        show x1 1 1 (xin i n _) = _
        rw [xin_ok hi0 (by omega)]
        rfl
      · exact j_putA ha1 hcs (by omega) (by omega) (by omega) ht hc2 hg hf hL hS2 hF hT (nar_b x).1 (nar_b x).2 (fun q hq => by cases hq) kk
    | false =>
      rw [hB] at ha1
      obtain ⟨hi1, h1⟩ := aIf_s ha1
      obtain ⟨t, n, hc1, hc2, hc3, hc4, hc5⟩ := idx_s hi1 hcs
      have hi0 : 0 ≤ i.toInt := by omega
      have hcl := clamp_s hi0
      have hnb : xisB t = false := by
        cases t <;> first | rfl | cases hc3
      refine aT_step (pc1 := pc + 1) (lv1 := lv) (st1 := s) (h1 := xsetI h c i.toNatClampNeg (vp_nar .boolean x)) hq ?_ ?_
      · show x1 1 1 (xarr h c _) = _
        rw [xarr_ok hg hc1 hc2, hnb, hc3]
        show x1 1 1 (xin i n _) = _
        rw [xin_ok hi0 (by omega)]
        rfl
      · exact j_putA h1 hcs (by omega) (by omega) (by omega) ht hc2 hg hf hL hS2 hF hT (nar_z x).1 (nar_z x).2 (fun q hq => by cases hq) kk
  · cases ha1
theorem j_tableswitch {df lo hi : Int} {offs : Array Int} {len a b : Nat} {w : Nat} (hq : xins (aJ j) pc = some (.tableswitch df lo hi offs, len, a, b, w)) (ha : aS_tableswitch j len a b df lo hi offs pc (alv, ast, fs, tr) = some l) (hs : aSt j h0 base (alv, ast, fs, tr) lv st h) (kk : ∀ s ∈ l, ∀ lv1 st1 h1, aSt j h0 base s.2 lv1 st1 h1 → aT L xs d j h0 s.1 lv1 st1 h1) : aT L xs d j h0 pc lv st h := by
  obtain ⟨hg, hf, hL, hS, hF, hT⟩ := hs
  unfold aS_tableswitch at ha
  dsimp only at ha hL hS hF hT
  split at ha
  · rename_i x0 x1' o r
    obtain ⟨hz, ha1⟩ := aIf_s ha
    have hz2 := ai_le.mp hz
    cases ha1
    obtain ⟨x, s, rfl, u1, u2, u3, hS2⟩ := s_int hS
    have hs2 : aSt j h0 base (alv, r, fs, tr) lv s h := ⟨hg, hf, hL, hS2, hF, hT⟩
    by_cases hx : x.toInt < lo ∨ hi < x.toInt
    · refine aT_step (pc1 := ((pc : Int) + df).toNat) (lv1 := lv) (st1 := s) (h1 := h) hq ?_ (kk (((pc : Int) + df).toNat, (alv, r, fs, tr)) (List.mem_append_left _ ?_) _ _ _ hs2)
      · show (if x.toInt < lo ∨ hi < x.toInt then _ else _) = _
        rw [if_pos hx]
        rfl
      · have hb : (aile x0 (lo - 1) || aile (hi + 1) x1') = true := by
          rw [Bool.or_eq_true]
          rcases hx with hx | hx
          · exact Or.inl (ai_le.mpr (by omega))
          · exact Or.inr (ai_le.mpr (by omega))
        rw [hb]
        exact List.mem_singleton.mpr rfl
    · have hn : (x.toInt - lo).toNat < offs.size := by omega
      have e1 : offs[(x.toInt - lo).toNat]? = some offs[(x.toInt - lo).toNat] := Array.getElem?_eq_getElem hn
      have e2 : lo + ((x.toInt - lo).toNat : Int) = x.toInt := by omega
      refine aT_step (pc1 := ((pc : Int) + offs[(x.toInt - lo).toNat]).toNat) (lv1 := lv) (st1 := s) (h1 := h) hq ?_ (kk (_, aRfn aRng o (lo + ((x.toInt - lo).toNat : Nat), lo + ((x.toInt - lo).toNat : Nat)) (alv, r, fs, tr)) (List.mem_append_right _ (List.mem_flatMap.mpr ⟨(x.toInt - lo).toNat, List.mem_range.mpr hn, ?_⟩)) _ _ _ (rfn_s hs2 u3 (Int.le_of_eq e2) (Int.le_of_eq e2.symm)))
      · show (if x.toInt < lo ∨ hi < x.toInt then _ else _) = _
        rw [if_neg hx, e1]
        rfl
      · have hb : (aile x0 (lo + ((x.toInt - lo).toNat : Nat)) && aile (lo + ((x.toInt - lo).toNat : Nat)) x1' && aile (lo + ((x.toInt - lo).toNat : Nat)) hi) = true := by
          rw [Bool.and_eq_true, Bool.and_eq_true]
          exact ⟨⟨ai_le.mpr (by omega), ai_le.mpr (by omega)⟩, ai_le.mpr (by omega)⟩
        rw [hb, e1]
        exact List.mem_singleton.mpr rfl
  · cases ha
theorem lks_s (df k : Int) : ∀ l : List (Int × Int), Op.lookupswitch.offset l df k = df ∨ ∃ p ∈ l, Op.lookupswitch.offset l df k = p.2
  | [] => Or.inl rfl
  | (a, o) :: r => by
    rw [Op.lookupswitch.offset_cons]
    by_cases e : a = k
    · rw [if_pos e]
      exact Or.inr ⟨(a, o), List.mem_cons_self, rfl⟩
    · rw [if_neg e]
      rcases lks_s df k r with h1 | ⟨p, h1, h2⟩
      · exact Or.inl h1
      · exact Or.inr ⟨p, List.mem_cons_of_mem _ h1, h2⟩
theorem j_lookupswitch {df : Int} {ps : Array (Int × Int)} {len a b : Nat} {w : Nat} (hq : xins (aJ j) pc = some (.lookupswitch df ps, len, a, b, w)) (ha : aS_lookupswitch j len a b df ps pc (alv, ast, fs, tr) = some l) (hs : aSt j h0 base (alv, ast, fs, tr) lv st h) (kk : ∀ s ∈ l, ∀ lv1 st1 h1, aSt j h0 base s.2 lv1 st1 h1 → aT L xs d j h0 s.1 lv1 st1 h1) : aT L xs d j h0 pc lv st h := by
  obtain ⟨hg, hf, hL, hS, hF, hT⟩ := hs
  unfold aS_lookupswitch at ha
  dsimp only at ha hL hS hF hT
  split at ha
  · rename_i x0 x1' o r
    cases ha
    obtain ⟨x, s, rfl, u1, u2, u3, hS2⟩ := s_int hS
    have hs2 : aSt j h0 base (alv, r, fs, tr) lv s h := ⟨hg, hf, hL, hS2, hF, hT⟩
    refine aT_step (pc1 := ((pc : Int) + Op.lookupswitch.offset ps.toList df x.toInt).toNat) (lv1 := lv) (st1 := s) (h1 := h) hq rfl ?_
    rcases lks_s df x.toInt ps.toList with h1 | ⟨p, h1, h2⟩
    · rw [h1]
      exact kk _ List.mem_cons_self _ _ _ hs2
    · rw [h2]
      exact kk _ (List.mem_cons_of_mem _ (List.mem_map.mpr ⟨p, h1, rfl⟩)) _ _ _ hs2
  · cases ha
end BB
