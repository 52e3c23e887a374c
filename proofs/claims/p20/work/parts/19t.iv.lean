/-! how long a row is -/
section BA
variable {L : Nat} {xs : Nat → Int32} {d j : Nat} {h0 : aE} {base : aK → Int} {pc : Nat} {alv ast r : List aV} {fs : aFs} {tr : aTr} {lv st s : List Value} {h : xH} {l : List (Nat × aS)} {S : aS}
theorem j_arraylength {len a b : Nat} {w : Nat} (hq : xins (aJ j) pc = some (.arraylength, len, a, b, w)) (ha : aS_arraylength j len a b pc (alv, ast, fs, tr) = some l) (hs : aSt j h0 base (alv, ast, fs, tr) lv st h) (kk : ∀ s ∈ l, ∀ lv1 st1 h1, aSt j h0 base s.2 lv1 st1 h1 → aT L xs d j h0 s.1 lv1 st1 h1) : aT L xs d j h0 pc lv st h := by
  obtain ⟨hg, hf, hL, hS, hF, hT⟩ := hs
  unfold aS_arraylength at ha
  dsimp only at ha hL hS hF hT
  obtain ⟨hl, ha1⟩ := aIf_s ha
  clear ha
  have hlen : len = 1 := Nat.eq_of_beq_eq_true hl
  subst hlen
  split at ha1
  · rename_i c cs r
    obtain ⟨c', s, rfl, hcs, hS2⟩ := s_ref hS
    obtain ⟨h1, h2⟩ := aIf_s ha1
    rw [Bool.and_eq_true, List.all_eq_true] at h1
    obtain ⟨t, n, n1, hc2, -, hn⟩ := aArr_s (h1.1 c' hcs)
    have en : n = aLenOf c := Nat.eq_of_beq_eq_true hn
    have n2 : aLenOf c < 2147483648 := Nat.le_of_ble_eq_true h1.2
    have e : (Int32.ofNat (aLenOf c)).toInt = (aLenOf c : Nat) := Int32.toInt_ofNat_of_lt n2
    refine aT_step (pc1 := pc + 1) (lv1 := lv) (st1 := .int (Int32.ofNat n) :: s) (h1 := h) hq ?_ (kk _ (aGo_s h2) _ _ _ ⟨hg, hf, hL, ⟨⟨_, rfl, by rw [en]; exact Int.le_of_eq e.symm, by rw [en]; exact Int.le_of_eq e, trivial⟩, hS2⟩, hF, hT⟩)
    show x1 1 1 (xarr h c' _) = _
    rw [xarr_ok hg n1 hc2]
    rfl
  · rename_i r
    obtain ⟨c, s, rfl, hcs, hS2⟩ := s_txt hS
    have ec := List.mem_singleton.mp hcs
    subst ec
    exact aT_step (pc1 := pc + 1) (lv1 := lv) (st1 := .int 16 :: s) (h1 := h) hq rfl (kk _ (aGo_s ha1) _ _ _ ⟨hg, hf, hL, ⟨⟨_, rfl, by decide, by decide, trivial⟩, hS2⟩, hF, hT⟩)
  · cases ha1
end BA
