/-! the checker's step is sound, whatever the instruction -/
section BD
variable {L : Nat} {xs : Nat → Int32} {d j : Nat} {h0 : aE} {base : aK → Int} {pc : Nat} {lv st : List Value} {h : xH} {l : List (Nat × aS)} {S : aS}
theorem ones_s : ∀ k, k < 16 → 0 ≤ (xones k).toInt ∧ (xones k).toInt ≤ 400 := by decide
theorem j_pur {q : xQ} {r : List aV × List aV × aTr} (hq : xins (aJ j) pc = some q) (hx : xstep L xs d (aJ j) q pc lv st h = (match xpur q.1 q.2.1 lv st with
    | some r => xgo (pc + q.2.1) r.1 r.2 h
    | none => none)) (hp : aPur q.1 q.2.1 S.1 S.2.1 S.2.2.2 = some r) (hs : aSt j h0 base S lv st h) (kk : ∀ lv1 st1 h1, aSt j h0 base (r.1, r.2.1, S.2.2.1, r.2.2) lv1 st1 h1 → aT L xs d j h0 (pc + q.2.1) lv1 st1 h1) : aT L xs d j h0 pc lv st h := by
  obtain ⟨hg, hf, hL, hS, hF, hT⟩ := hs
  obtain ⟨lv1, st1, e1, e2, e3, e4⟩ := a_pur hp hL hS hT
  refine aT_step (pc1 := pc + q.2.1) (lv1 := lv1) (st1 := st1) (h1 := h) hq ?_ (kk _ _ _ ⟨hg, hf, e2, e3, hF, e4⟩)
  rw [hx, e1]
  rfl
theorem get_gs {lv : List Value} {h : xH} : ∀ (as : List aV) (us : List Value) (i : Nat) (a : aV), aGs lv h as us → as[i]? = some a → ∃ v, us[i]? = some v ∧ aG lv h a v := by
  intro as
  induction as with
  | nil => intro us i a _ hi; cases hi
  | cons b r ih =>
    intro us i a hg hi
    cases us with
    | nil => exact hg.elim
    | cons u t =>
      cases i with
      | zero => cases hi; exact ⟨u, rfl, hg.1⟩
      | succ i => exact ih t i a hg.2 hi
theorem j_virtual {i0 len ja b w : Nat} (h9 : Nat.ble 900 ja = false) (hkn : ∀ n, n < j → aOK n) (hd : aDep j ≤ d) (hq : xins (aJ j) pc = some (.invokevirtual i0, len, ja, b, w)) (ha : aS_invokevirtual j len ja b pc S = some l) (hs : aSt j h0 base S lv st h) (kk : ∀ s ∈ l, ∀ lv1 st1 h1, aSt j h0 base s.2 lv1 st1 h1 → aT L xs d j h0 s.1 lv1 st1 h1) : aT L xs d j h0 pc lv st h := by
  unfold aS_invokevirtual at ha
  obtain ⟨hl, ha0⟩ := aIf_s ha
  clear ha
  have hlen : len = 3 := Nat.eq_of_beq_eq_true hl
  subst hlen
  rw [h9] at ha0
  dsimp only [cond_false] at ha0
  have h9' : ¬ 900 ≤ ja := fun z => by rw [Nat.ble_eq_true_of_le z] at h9; cases h9
  split at ha0
  · rename_i cs hcs
    obtain ⟨h1, h2⟩ := aIf_s ha0
    rw [List.all_eq_true] at h1
    obtain ⟨v, hv, c, rfl, hc⟩ := get_gs _ _ _ _ hs.2.2.2.1 hcs
    refine j_call hkn hd hq (fun d => ?_) h2 hs kk
    show x1 3 3 (if 900 ≤ ja then _ else xrcv h (xmcl ja) st[xnarg ja]? _) = _
    rw [if_neg h9', hv]
    show x1 3 3 (xobj h c (xmcl ja) _) = _
    rw [xobj_ok hs.1 (h1 c hc)]
    rfl
  · cases ha0
theorem j_static {i0 len ja b w : Nat} (h9 : Nat.ble 900 ja = false) (hkn : ∀ n, n < j → aOK n) (hd : aDep j ≤ d) (hq : xins (aJ j) pc = some (.invokestatic i0, len, ja, b, w)) (ha : aS_invokestatic j len ja b pc S = some l) (hs : aSt j h0 base S lv st h) (kk : ∀ s ∈ l, ∀ lv1 st1 h1, aSt j h0 base s.2 lv1 st1 h1 → aT L xs d j h0 s.1 lv1 st1 h1) : aT L xs d j h0 pc lv st h := by
  unfold aS_invokestatic at ha
  obtain ⟨hl, ha0⟩ := aIf_s ha
  clear ha
  have hlen : len = 3 := Nat.eq_of_beq_eq_true hl
  subst hlen
  rw [h9] at ha0
  dsimp only [cond_false] at ha0
  have h9' : ¬ 900 ≤ ja := fun z => by rw [Nat.ble_eq_true_of_le z] at h9; cases h9
  refine j_call hkn hd hq (fun d => ?_) ha0 hs kk
  show x1 3 3 (if 900 ≤ ja then _ else xcall ja (xnarg ja) st) = _
  rw [if_neg h9']
  rfl
set_option maxHeartbeats 2000000 in
theorem a_step (ht : aTab) (hkn : ∀ n, n < j → aOK n) (hd : aDep j ≤ d) {q : xQ} (hq : xins (aJ j) pc = some q) (ha : aStep j q pc S = some l) (hs : aSt j h0 base S lv st h) (kk : ∀ s ∈ l, ∀ lv1 st1 h1, aSt j h0 base s.2 lv1 st1 h1 → aT L xs d j h0 s.1 lv1 st1 h1) : aT L xs d j h0 pc lv st h := by
  obtain ⟨i, len, a, b, w⟩ := q
  obtain ⟨alv, ast, fs, tr⟩ := S
  have pur : ∀ {r}, (match aPur i len alv ast tr with
    | some r => aGo (pc + len) (r.1, r.2.1, fs, r.2.2)
    | none => none) = some l → aPur i len alv ast tr = some r → xstep L xs d (aJ j) (i, len, a, b, w) pc lv st h = (match xpur i len lv st with
    | some r => xgo (pc + len) r.1 r.2 h
    | none => none) → aT L xs d j h0 pc lv st h := by
    intro r e1 e2 e3
    rw [e2] at e1
    exact j_pur (r := r) hq e3 e2 hs (fun lv1 st1 h1 hs1 => kk _ (aGo_s e1) _ _ _ hs1)
  have pur2 : aStep j (i, len, a, b, w) pc (alv, ast, fs, tr) = (match aPur i len alv ast tr with
    | some r => aGo (pc + len) (r.1, r.2.1, fs, r.2.2)
    | none => none) → xstep L xs d (aJ j) (i, len, a, b, w) pc lv st h = (match xpur i len lv st with
    | some r => xgo (pc + len) r.1 r.2 h
    | none => none) → aT L xs d j h0 pc lv st h := by
    intro e1 e3
    rw [e1] at ha
    cases hp : aPur i len alv ast tr with
    | none => rw [hp] at ha; cases ha
    | some r => exact pur ha hp e3
  cases i with
  | getfield n => exact j_getfield hq ha hs kk
  | putfield n => exact j_putfield hq ha hs kk
  | arraylength => exact j_arraylength hq ha hs kk
  | iaload => exact j_iaload ht hq ha hs kk ones_s
  | baload => exact j_baload ht hq ha hs kk
  | laload => exact j_laload hq ha hs kk
  | iastore => exact j_iastore ht hq ha hs kk
  | bastore => exact j_bastore ht hq ha hs kk
  | lastore => exact j_lastore ht hq ha hs kk
  | ifCond c n => exact j_ifCond hq ha hs kk
  | if_icmp c n => exact j_if_icmp hq ha hs kk
  | goto n => exact j_goto hq ha hs kk
  | tableswitch df lo hi offs => exact j_tableswitch hq ha hs kk
  | lookupswitch df ps => exact j_lookupswitch hq ha hs kk
  | getstatic n => exact j_getstatic hq ha hs kk
  | ldc n => exact j_ldc hq ha hs kk
  | ldc_w n => exact j_ldc_w hq ha hs kk
  | ldc2_w n => exact j_ldc2_w hq ha hs kk
  | ireturn => exact j_ireturn hq ha hs
  | lreturn => exact j_lreturn hq ha hs
  | areturn => exact j_areturn hq ha hs
  | return_ => exact j_return hq ha hs
  | invokevirtual n =>
    cases h9 : Nat.ble 900 a with
    | false => exact j_virtual h9 hkn hd hq ha hs kk
    | true =>
      cases h2 : Nat.beq a 902 with
      | true =>
        have e := Nat.eq_of_beq_eq_true h2
        subst e
        exact j_length hd hq ha hs kk
      | false =>
        cases h3 : Nat.beq a 903 with
        | true =>
          have e := Nat.eq_of_beq_eq_true h3
          subst e
          exact j_charAt hd hq ha hs kk
        | false =>
          have ha2 : aS_invokevirtual j len a b pc (alv, ast, fs, tr) = some l := ha
          unfold aS_invokevirtual at ha2
          rw [h9, h2, h3] at ha2
          obtain ⟨-, ha3⟩ := aIf_s ha2
          dsimp only [cond_true] at ha3
          obtain ⟨-, ha4⟩ := aIf_s ha3
          have ha5 : (none : Option (List (Nat × aS))) = some l := ha4
          cases ha5
  | invokestatic n =>
    cases h9 : Nat.ble 900 a with
    | false => exact j_static h9 hkn hd hq ha hs kk
    | true =>
      cases h2 : Nat.beq a 904 with
      | true => exact j_mxmn (Or.inl (Nat.eq_of_beq_eq_true h2)) hd hq ha hs kk
      | false =>
        cases h3 : Nat.beq a 905 with
        | true => exact j_mxmn (Or.inr (Nat.eq_of_beq_eq_true h3)) hd hq ha hs kk
        | false =>
          cases h4 : Nat.beq a 901 with
          | true =>
            have e := Nat.eq_of_beq_eq_true h4
            subst e
            exact j_copy ht hd hq ha hs kk
          | false =>
            have ha2 : aS_invokestatic j len a b pc (alv, ast, fs, tr) = some l := ha
            unfold aS_invokestatic at ha2
            rw [h9, h2, h3, h4] at ha2
            obtain ⟨-, ha3⟩ := aIf_s ha2
            dsimp only [cond_true] at ha3
            obtain ⟨-, ha4⟩ := aIf_s ha3
            have ha5 : (none : Option (List (Nat × aS))) = some l := ha4
            cases ha5
  | new n => cases ha
  | newarray n => cases ha
  | invokespecial n => cases ha
  | _ => exact pur2 rfl rfl
end BD
