/-! the start: classes and array classes as the tables have them -/
theorem x_K0 {args : Array Value} {s : State} (hts : ∀ w ∈ xgw, w.before args s = true) : ∃ (D : va_G) (cA : FieldType → ClassId), va_K D xcl (xtys cA) s := by
  have hc : ∀ ci, ∃ q : ClassId × (Nat → Nat), ci < 13 → u_Kn s (xcn ci) (xT ci) (xnf ci) q.1 q.2 := by
    intro ci
    by_cases h : ci < 13
    · obtain ⟨cC, iS, hk⟩ := u_known (C := xcn ci) (T := xT ci) (N := xnf ci) (n := xnf ci) hts (xcl_in' h) (xword hts (xcl_ins ci h) rfl)
      exact ⟨(cC, iS), fun _ => hk⟩
    · exact ⟨(0, fun _ => 0), fun q => absurd q h⟩
  have ha : ∀ t : FieldType, ∃ cA : ClassId, (Cond.arrayClass t) ∈ xgw → ArrOfT s cA t ∧ s.vm.findClass ("[" ++ t.toString) = some cA := by
    intro t
    by_cases h : (Cond.arrayClass t) ∈ xgw
    · obtain ⟨cA, kA, comp, h1, h2, h3⟩ := Cond.arrayClass_spec (hts _ h)
      exact ⟨cA, fun _ => ⟨fun n z => ⟨fun k h => (by cases h), kA, h2, comp, h3⟩, h1⟩⟩
    · exact ⟨0, fun q => absurd q h⟩
  have hm : ∀ {i : Nat} {t : FieldType}, lw_tbl[i]? = some (.arrayClass t) → (Cond.arrayClass t) ∈ xgw := fun h => List.mem_filter.mpr ⟨List.mem_of_getElem? h, rfl⟩
  refine ⟨(fun ci => (Classical.choose (hc ci)).1, fun ci => (Classical.choose (hc ci)).2), fun t => Classical.choose (ha t), ?_, ?_⟩
  · intro ci q hq
    have h := xcl_lt hq
    rw [xcl_get h] at hq
    cases hq
    exact Classical.choose_spec (hc ci) h
  · intro k q hq
    match k, hq with
    | 0, hq => cases hq; exact Classical.choose_spec (ha .int) (hm xpA_i)
    | 1, hq => cases hq; exact Classical.choose_spec (ha .long) (hm xpA_j)
    | 2, hq => cases hq; exact Classical.choose_spec (ha .byte) (hm xpA_b)
    | 3, hq => cases hq; exact Classical.choose_spec (ha .boolean) (hm xpA_z)
    | k + 4, hq => simp [xtys] at hq
/-! a run that doesn't touch the script is the same with any script -/
theorem xstep_off {xs0 : Nat → Int32} {L : Nat} {xs : Nat → Int32} {d j pc : Nat} {q : xQ} {lv st : List Value} {h : xH} {r : xR} (hs : xstep 2147483648 xs0 d j q pc lv st h = some r) : xstep L xs d j q pc lv st h = some r := by
  obtain ⟨i, len, a, b, w⟩ := q
  cases i with
  | arraylength =>
    obtain ⟨e0, h1⟩ := x1_s hs
    have : ∀ z, z = some r → x1 len 1 z = some r := fun z hz => by unfold x1; rw [if_pos e0]; exact hz
    refine this _ ?_
    split at h1
    · exact h1
    · rw [if_neg (by decide)] at h1; cases h1
    · exact h1
    · cases h1
  | iaload =>
    obtain ⟨e0, h1⟩ := x1_s hs
    have : ∀ z, z = some r → x1 len 1 z = some r := fun z hz => by unfold x1; rw [if_pos e0]; exact hz
    refine this _ ?_
    split at h1
    · exact h1
    · rw [if_neg (by decide)] at h1; cases h1
    · exact h1
    · cases h1
  | _ => exact hs
theorem xrun_off {xs0 : Nat → Int32} {L : Nat} {xs : Nat → Int32} : ∀ {n d j pc : Nat} {lv st : List Value} {h : xH} {r : Option Value × xH}, xrun 2147483648 xs0 n d j pc lv st h = some r → xrun L xs n d j pc lv st h = some r := by
  intro n
  induction n with
  | zero => intro d j pc lv st h r hr; cases hr
  | succ n ih =>
    intro d j pc lv st h r hr
    obtain ⟨v, h'⟩ := r
    obtain ⟨q, hq, ⟨pc1, lv1, st1, h1, hs, h2⟩ | ⟨hs, rfl⟩ | ⟨j1, as, rest, d1, v1, h1, hs, rfl, h2, h3⟩⟩ := xrun_s hr
    · rw [xrun_succ, hq]
      dsimp only
      rw [xstep_off hs]
      exact ih h2
    · rw [xrun_succ, hq]
      dsimp only
      rw [xstep_off hs]
    · rw [xrun_succ, hq]
      dsimp only
      rw [xstep_off hs]
      dsimp only
      rw [ih h2]
      exact ih h3
theorem xnext_off {xs0 : Nat → Int32} {L : Nat} {xs : Nat → Int32} {n d j pc : Nat} {lv st : List Value} {h : xH} {f : xF} (hr : xnext 2147483648 xs0 n d j pc lv st h = some f) : xnext L xs n d j pc lv st h = some f := by
  obtain ⟨pc1, lv1, st1, h1⟩ := f
  obtain ⟨q, hq, hs | ⟨j1, as, rest, d1, v1, hs, rfl, h2, rfl, rfl, rfl⟩⟩ := xnext_s hr
  · unfold xnext
    rw [hq]
    dsimp only
    rw [xstep_off hs]
  · unfold xnext
    rw [hq]
    dsimp only
    rw [xstep_off hs]
    dsimp only
    rw [xrun_off h2]
theorem xgoN_off {xs0 : Nat → Int32} {L : Nat} {xs : Nat → Int32} {n d j : Nat} {r : xF} : ∀ (k : Nat) {pc : Nat} {lv st : List Value} {h : xH}, xgoN 2147483648 xs0 n d j k pc lv st h = some r → xgoN L xs n d j k pc lv st h = some r := by
  intro k
  induction k with
  | zero => intro pc lv st h hg; exact hg
  | succ k ih =>
    intro pc lv st h hg
    have hg2 : (match xnext 2147483648 xs0 n d j pc lv st h with | none => none | some (pc', lv', st', h') => xgoN 2147483648 xs0 n d j k pc' lv' st' h') = some r := hg
    show (match xnext L xs n d j pc lv st h with | none => none | some (pc', lv', st', h') => xgoN L xs n d j k pc' lv' st' h') = some r
    cases hnx : xnext 2147483648 xs0 n d j pc lv st h with
    | none => rw [hnx] at hg2; cases hg2
    | some f =>
      obtain ⟨pc2, lv2, st2, h2⟩ := f
      rw [hnx] at hg2
      rw [xnext_off hnx]
      exact ih hg2
/-! heaps that agree in the places that are there -/
def xagr (h h2 : xH) (c : Nat) : Prop := match xsh c with
  | some (.inl ci) => ∀ k, k < xnf ci → xval h2 (xty ci k) c k = xval h (xty ci k) c k
  | some (.inr (_, n)) => ∀ k, k < n → h2.2.1 c k = h.2.1 c k ∧ h2.2.2.1 c k = h.2.2.1 c k
  | none => True
theorem arrV_congr {cI : ClassId} {n : Nat} {f g : Nat → Value} (h : ∀ k, k < n → f k = g k) : arrV cI n f = arrV cI n g := by
  unfold arrV
  congr 1
  congr 1
  funext j
  exact h j.1 j.2
theorem xrep_agr {D : va_G} {cA : FieldType → ClassId} {B0 : Nat} {E : Nat → Nat} {h h2 : xH} {H : Heap} (hn : h2.1 = h.1) (ha : ∀ c, c < h.1 → xagr h h2 c) (hr : xRep D cA B0 E h H) : xRep D cA B0 E h2 H := by
  refine ⟨fun hlt => by rw [hn]; exact hr.1 (by rw [← hn]; exact hlt), fun k q hq => ?_⟩
  obtain ⟨hk, rfl⟩ := xw_of hq
  rw [hn] at hk
  have h1 := hr.2 k _ (xw_get hk)
  have h3 := ha k hk
  unfold xagr at h3
  cases hsh : xsh k with
  | none =>
    have e1 : xce B0 E cA h2 k = xce B0 E cA h k := by unfold xce; rw [hsh]
    rw [e1]
    exact h1
  | some r =>
    rw [hsh] at h3
    cases r with
    | inl ci =>
      dsimp only at h3
      have e1 : xce B0 E cA h2 k = xce B0 E cA h k := by
        rw [xce_obj hsh, xce_obj hsh]
        congr 2
        apply List.map_congr_left
        intro i hi
        rw [h3 i (List.mem_range.mp hi)]
      rw [e1]
      exact h1
    | inr tn =>
      obtain ⟨t, n⟩ := tn
      dsimp only at h3
      rw [xce_arr hsh] at h1 ⊢
      have h4 : H[B0 + k]? = some (vp_cell (cA t) (n, if xisJ t then .inr (.inl (h.2.2.1 k)) else .inl (h.2.1 k))) := h1
      show H[B0 + k]? = some (vp_cell (cA t) (n, if xisJ t then .inr (.inl (h2.2.2.1 k)) else .inl (h2.2.1 k)))
      rw [h4]
      cases xisJ t with
      | true =>
        exact congrArg some (show arrV (cA t) n (fun i => .long (h.2.2.1 k i)) = arrV (cA t) n (fun i => .long (h2.2.2.1 k i)) from arrV_congr (fun i hi => by rw [(h3 i hi).2]))
      | false =>
        exact congrArg some (show arrV (cA t) n (fun i => .int (h.2.1 k i)) = arrV (cA t) n (fun i => .int (h2.2.1 k i)) from arrV_congr (fun i hi => by rw [(h3 i hi).1]))
def xh0 : xH := (0, fun _ _ => 0, fun _ _ => 0, fun _ _ => 0)
/-- behind both constructors, at the head of the law's loop -/
noncomputable def xc1 : Option xF := xgoN 2147483648 (fun _ => 0) 4000 20 0 10 0 (xent [.retAddr 0] 4) [] xh0
