/-! branches, constants, returns -/
section AO
variable {L : Nat} {xs : Nat → Int32} {d j : Nat} {h0 : aE} {base : aK → Int} {pc : Nat} {alv ast r : List aV} {fs : aFs} {tr : aTr} {lv st s : List Value} {h : xH} {l : List (Nat × aS)} {S : aS}
theorem br_s {c : ClassFile.Cond} {a b e f : Int} {o o' : Option (aK × Int)} {x y : Int32} {t : Nat} (hs : aSt j h0 base S lv st h) (hx1 : a ≤ x.toInt) (hx2 : x.toInt ≤ b) (hx3 : aOr lv h o x.toInt) (hy1 : e ≤ y.toInt) (hy2 : y.toInt ≤ f) (hy3 : aOr lv h o' y.toInt) (hc : xcnd c x y = true) : ∃ S', (t, S') ∈ aBr aRng c a b o e f o' t S ∧ aSt j h0 base S' lv st h := by
  obtain ⟨h1, h2⟩ := cnd_s hx1 hx2 hy1 hy2 hc
  have b1 : aile (aCnd c a b e f).1.1 (aCnd c a b e f).1.2 = true := ai_le.mpr (Int.le_trans h1.1 h1.2)
  have b2 : aile (aCnd c a b e f).2.1 (aCnd c a b e f).2.2 = true := ai_le.mpr (Int.le_trans h2.1 h2.2)
  refine ⟨aRfn aRng o' (aCnd c a b e f).2 (aRfn aRng o (aCnd c a b e f).1 S), ?_, rfn_s (rfn_s hs hx3 h1.1 h1.2) hy3 h2.1 h2.2⟩
  unfold aBr
  rw [b1, b2]
  exact List.mem_singleton.mpr rfl
theorem j_if_icmp {c : ClassFile.Cond} {n : Int} {len a b : Nat} {w : Nat} (hq : xins (aJ j) pc = some (.if_icmp c n, len, a, b, w)) (ha : aS_if_icmp j len a b c pc (alv, ast, fs, tr) = some l) (hs : aSt j h0 base (alv, ast, fs, tr) lv st h) (kk : ∀ s ∈ l, ∀ lv1 st1 h1, aSt j h0 base s.2 lv1 st1 h1 → aT L xs d j h0 s.1 lv1 st1 h1) : aT L xs d j h0 pc lv st h := by
  obtain ⟨hg, hf, hL, hS, hF, hT⟩ := hs
  unfold aS_if_icmp at ha
  dsimp only at ha hL hS hF hT
  obtain ⟨hl, ha1⟩ := aIf_s ha
  clear ha
  have hlen : len = 3 := Nat.eq_of_beq_eq_true hl
  subst hlen
  split at ha1
  · rename_i e f o' lo hi o r
    cases ha1
    obtain ⟨y, s1, rfl, v1, v2, v3, hS1⟩ := s_int hS
    obtain ⟨x, s, rfl, u1, u2, u3, hS2⟩ := s_int hS1
    have hs2 : aSt j h0 base (alv, r, fs, tr) lv s h := ⟨hg, hf, hL, hS2, hF, hT⟩
    cases hc : xcnd c x y with
    | true =>
      obtain ⟨S', hm, hS'⟩ := br_s (t := a) hs2 u1 u2 u3 v1 v2 v3 hc
      refine aT_step (pc1 := a) (lv1 := lv) (st1 := s) (h1 := h) hq ?_ (kk _ (List.mem_append_left _ hm) _ _ _ hS')
      show x1 3 3 (xbr (xcnd c x y) pc a lv s h) = _
      rw [hc]
      rfl
    | false =>
      obtain ⟨S', hm, hS'⟩ := br_s (t := pc + 3) hs2 u1 u2 u3 v1 v2 v3 (neg_s hc)
      refine aT_step (pc1 := pc + 3) (lv1 := lv) (st1 := s) (h1 := h) hq ?_ (kk _ (List.mem_append_right _ hm) _ _ _ hS')
      show x1 3 3 (xbr (xcnd c x y) pc a lv s h) = _
      rw [hc]
      rfl
  · cases ha1
theorem j_ifCond {c : ClassFile.Cond} {n : Int} {len a b : Nat} {w : Nat} (hq : xins (aJ j) pc = some (.ifCond c n, len, a, b, w)) (ha : aS_ifCond j len a b c pc (alv, ast, fs, tr) = some l) (hs : aSt j h0 base (alv, ast, fs, tr) lv st h) (kk : ∀ s ∈ l, ∀ lv1 st1 h1, aSt j h0 base s.2 lv1 st1 h1 → aT L xs d j h0 s.1 lv1 st1 h1) : aT L xs d j h0 pc lv st h := by
  obtain ⟨hg, hf, hL, hS, hF, hT⟩ := hs
  unfold aS_ifCond at ha
  dsimp only at ha hL hS hF hT
  obtain ⟨hl, ha1⟩ := aIf_s ha
  clear ha
  have hlen : len = 3 := Nat.eq_of_beq_eq_true hl
  subst hlen
  split at ha1
  · rename_i lo hi o r
    cases ha1
    obtain ⟨x, s, rfl, u1, u2, u3, hS2⟩ := s_int hS
    have hs2 : aSt j h0 base (alv, r, fs, tr) lv s h := ⟨hg, hf, hL, hS2, hF, hT⟩
    have v1 : (0 : Int) ≤ (0 : Int32).toInt := by decide
    have v2 : (0 : Int32).toInt ≤ 0 := by decide
    cases hc : xcnd c x 0 with
    | true =>
      obtain ⟨S', hm, hS'⟩ := br_s (t := a) (o' := none) hs2 u1 u2 u3 v1 v2 trivial hc
      refine aT_step (pc1 := a) (lv1 := lv) (st1 := s) (h1 := h) hq ?_ (kk _ (List.mem_append_left _ hm) _ _ _ hS')
      show x1 3 3 (xbr (xcnd c x 0) pc a lv s h) = _
      rw [hc]
      rfl
    | false =>
      obtain ⟨S', hm, hS'⟩ := br_s (t := pc + 3) (o' := none) hs2 u1 u2 u3 v1 v2 trivial (neg_s hc)
      refine aT_step (pc1 := pc + 3) (lv1 := lv) (st1 := s) (h1 := h) hq ?_ (kk _ (List.mem_append_right _ hm) _ _ _ hS')
      show x1 3 3 (xbr (xcnd c x 0) pc a lv s h) = _
      rw [hc]
      rfl
  · cases ha1
theorem j_goto {n : Int} {len a b : Nat} {w : Nat} (hq : xins (aJ j) pc = some (.goto n, len, a, b, w)) (ha : aS_goto j len a b pc S = some l) (hs : aSt j h0 base S lv st h) (kk : ∀ s ∈ l, ∀ lv1 st1 h1, aSt j h0 base s.2 lv1 st1 h1 → aT L xs d j h0 s.1 lv1 st1 h1) : aT L xs d j h0 pc lv st h := by
  unfold aS_goto at ha
  obtain ⟨hl, ha1⟩ := aIf_s ha
  have hlen : len = 3 := Nat.eq_of_beq_eq_true hl
  subst hlen
  exact aT_step (pc1 := a) (lv1 := lv) (st1 := st) (h1 := h) hq rfl (kk _ (aGo_s ha1) _ _ _ hs)
end AO
