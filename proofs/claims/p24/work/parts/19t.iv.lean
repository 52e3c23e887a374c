/-! how long a row is -/
section BA
variable {kn : List Nat} {L : Nat} {xs : Nat → Int32} {d j : Nat} {h0 : xH} {base : aK → Int} {pc : Nat} {alv ast r : List aV} {fs : aFs} {tr : aTr} {lv st s : List Value} {h : xH} {l : List (Nat × aS)} {S : aS}
theorem j_arraylength {len a b : Nat} {w : Nat} (hq : xins j pc = some (.arraylength, len, a, b, w)) (ha : aS_arraylength kn j len a b pc (alv, ast, fs, tr) = some l) (hs : aSt j h0 base (alv, ast, fs, tr) lv st h) (kk : ∀ s ∈ l, ∀ lv1 st1 h1, aSt j h0 base s.2 lv1 st1 h1 → aT L xs d j h0 s.1 lv1 st1 h1) : aT L xs d j h0 pc lv st h := by
  obtain ⟨hg, hf, hL, hS, hF, hT⟩ := hs
  unfold aS_arraylength at ha
  dsimp only at ha hL hS hF hT
  obtain ⟨hl, ha1⟩ := aIf_s ha
  clear ha
  have hlen : len = 1 := Nat.eq_of_beq_eq_true hl
  subst hlen
  split at ha1
  · rename_i c r
    obtain ⟨c', s, rfl, hcs, hS2⟩ := s_ref hS
    have ec := List.mem_singleton.mp hcs
    subst ec
    split at ha1
    · rename_i t n hc2
      obtain ⟨h1, h2⟩ := aIf_s ha1
      rw [Bool.and_eq_true] at h1
      have n1 : c' < 124 := Nat.le_of_ble_eq_true h1.1
      have n2 : n < 2147483648 := Nat.le_of_ble_eq_true h1.2
      have e : (Int32.ofNat n).toInt = n := Int32.toInt_ofNat_of_lt n2
      refine aT_step (pc1 := pc + 1) (lv1 := lv) (st1 := .int (Int32.ofNat n) :: s) (h1 := h) hq ?_ (kk _ (aGo_s h2) _ _ _ ⟨hg, hf, hL, ⟨⟨_, rfl, Int.le_of_eq e.symm, Int.le_of_eq e, trivial⟩, hS2⟩, hF, hT⟩)
      show x1 1 1 (xarr h c' _) = _
      rw [xarr_ok hg n1 hc2]
      rfl
    · cases ha1
  · rename_i r
    obtain ⟨c, s, rfl, hcs, hS2⟩ := s_txt hS
    have ec := List.mem_singleton.mp hcs
    subst ec
    exact aT_step (pc1 := pc + 1) (lv1 := lv) (st1 := .int 16 :: s) (h1 := h) hq rfl (kk _ (aGo_s ha1) _ _ _ ⟨hg, hf, hL, ⟨⟨_, rfl, by decide, by decide, trivial⟩, hS2⟩, hF, hT⟩)
  · cases ha1
end BA
