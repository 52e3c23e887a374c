/-! the checker's steps on the heap -/
theorem aIf_s {b : Bool} {r : Option (List (Nat × aS))} {l : List (Nat × aS)} (h : aIf b r = some l) : b = true ∧ r = some l := by
  cases b with
  | false => cases h
  | true => exact ⟨rfl, h⟩
theorem aGo_s {pc : Nat} {S : aS} {l : List (Nat × aS)} (h : aGo pc S = some l) : (pc, S) ∈ l := by
  cases h
  exact List.mem_singleton.mpr rfl
theorem aObj_s {c a : Nat} (h : aObj c a = true) : c < 124 ∧ xsh c = some (.inl a) := by
  unfold aObj at h
  rw [Bool.and_eq_true] at h
  refine ⟨Nat.le_of_ble_eq_true h.1, ?_⟩
  have h2 := h.2
  split at h2
  · rename_i ci hc
    rw [hc, Nat.eq_of_beq_eq_true h2]
  · cases h2
theorem xobj_ok {α : Type} {h : xH} {c a : Nat} {r : Option α} (hg : aGood h) (ho : aObj c a = true) : xobj h c a r = r := by
  obtain ⟨h1, h2⟩ := aObj_s ho
  unfold xobj
  have e : Nat.ble h.1 c = false := by
    cases e : Nat.ble h.1 c with
    | false => rfl
    | true => have := Nat.le_of_ble_eq_true e; rw [hg.1] at this; omega
  rw [e, h2]
  show (bif Nat.beq a a then r else none) = r
  rw [Nat.beq_refl]
  rfl
theorem aArr_s {c : Nat} {ok : FieldType → Bool} {f : Nat → Bool} (h : aArr c ok f = true) : ∃ t n, c < 124 ∧ xsh c = some (.inr (t, n)) ∧ ok t = true ∧ f n = true := by
  unfold aArr at h
  rw [Bool.and_eq_true] at h
  have h2 := h.2
  split at h2
  · rename_i t n hc
    rw [Bool.and_eq_true] at h2
    exact ⟨t, n, Nat.le_of_ble_eq_true h.1, hc, h2.1, h2.2⟩
  · cases h2
theorem xarr_ok {α : Type} {h : xH} {c n : Nat} {t : FieldType} {f : FieldType → Nat → Option α} (hg : aGood h) (hc : c < 124) (hs : xsh c = some (.inr (t, n))) : xarr h c f = f t n := by
  unfold xarr
  have e : Nat.ble h.1 c = false := by
    cases e : Nat.ble h.1 c with
    | false => rfl
    | true => have := Nat.le_of_ble_eq_true e; rw [hg.1] at this; omega
  rw [e, hs]
  rfl
theorem hull_fold (f : Nat → Int × Int) : ∀ (r : List Nat) (q : Int × Int), (r.foldl (fun q d => (amin q.1 (f d).1, amax q.2 (f d).2)) q).1 ≤ q.1 ∧ q.2 ≤ (r.foldl (fun q d => (amin q.1 (f d).1, amax q.2 (f d).2)) q).2 ∧ ∀ d ∈ r, (r.foldl (fun q d => (amin q.1 (f d).1, amax q.2 (f d).2)) q).1 ≤ (f d).1 ∧ (f d).2 ≤ (r.foldl (fun q d => (amin q.1 (f d).1, amax q.2 (f d).2)) q).2
  | [], q => ⟨Int.le_refl _, Int.le_refl _, fun d hd => by cases hd⟩
  | e :: r, q => by
    obtain ⟨h1, h2, h3⟩ := hull_fold f r (amin q.1 (f e).1, amax q.2 (f e).2)
    refine ⟨Int.le_trans h1 (amin_l _ _), Int.le_trans (amax_l _ _) h2, fun d hd => ?_⟩
    rcases List.mem_cons.mp hd with rfl | hd2
    · exact ⟨Int.le_trans h1 (amin_r _ _), Int.le_trans (amax_r _ _) h2⟩
    · exact h3 d hd2
theorem hull_s {f : Nat → Int × Int} {cs : List Nat} {c : Nat} (hc : c ∈ cs) : (aHull f cs).1 ≤ (f c).1 ∧ (f c).2 ≤ (aHull f cs).2 := by
  cases cs with
  | nil => cases hc
  | cons e r =>
    obtain ⟨h1, h2, h3⟩ := hull_fold f r (f e)
    rcases List.mem_cons.mp hc with rfl | hd
    · exact ⟨h1, h2⟩
    · exact h3 c hd
section AJ
variable {L : Nat} {xs : Nat → Int32} {d j : Nat} {h0 : aE} {base : aK → Int} {pc : Nat} {alv ast : List aV} {fs : aFs} {tr : aTr} {lv st : List Value} {h : xH} {l : List (Nat × aS)}
theorem g_intF {cs : List Nat} {c b : Nat} (hg : aGood h) (hF : aFok h fs) (hcs : c ∈ cs) (hhas : aHas c b) (hr : aIsRb c b = false) : aG lv h (aIntF cs b fs) (.int (h.2.1 c b)) := by
  unfold aIntF
  split
  · rename_i e
    have ec : c = e := List.mem_singleton.mp hcs
    subst ec
    have := fk_s hg hF hhas hr
    exact ⟨_, rfl, this.1, this.2, _, rfl, by omega⟩
  · have h3 := hull_s (f := fun c => aRng c b) hcs
    have h4 := hg.2.1 c b hhas
    exact ⟨_, rfl, Int.le_trans h3.1 h4.1, Int.le_trans h4.2 h3.2, trivial⟩
theorem g_refF {cs : List Nat} {c b : Nat} (hg : aGood h) (hF : aFok h fs) (hcs : c ∈ cs) (hr : aIsRb c b = true) : aG lv h (aRefF cs b fs) (xref (h.2.2.2 c b)) := by
  obtain ⟨e, he, hre⟩ := hg.2.2 c b hr
  unfold aRefF
  split
  · rename_i c'
    have ec : c = c' := List.mem_singleton.mp hcs
    subst ec
    split
    · rename_i z hz
      obtain ⟨d, e1, e2⟩ := fkR_s hF hr hz
      rw [e1, e2]
      exact ⟨d, rfl, List.mem_singleton.mpr rfl⟩
    · rw [hre]
      exact ⟨e, rfl, he⟩
  · rw [hre]
    exact ⟨e, rfl, List.mem_flatMap.mpr ⟨c, hcs, he⟩⟩
theorem j_getfield {n : Nat} {len a b : Nat} {w : Nat} (hq : xins (aJ j) pc = some (.getfield n, len, a, b, w)) (ha : aS_getfield j len a b pc (alv, ast, fs, tr) = some l) (hs : aSt j h0 base (alv, ast, fs, tr) lv st h) (kk : ∀ s ∈ l, ∀ lv1 st1 h1, aSt j h0 base s.2 lv1 st1 h1 → aT L xs d j h0 s.1 lv1 st1 h1) : aT L xs d j h0 pc lv st h := by
  obtain ⟨hg, hf, hL, hS, hF, hT⟩ := hs
  unfold aS_getfield at ha
  dsimp only at ha hL hS hF hT
  split at ha
  · rename_i cs r
    obtain ⟨hc, h1⟩ := aIf_s ha
    rw [Bool.and_eq_true, List.all_eq_true] at hc
    obtain ⟨c, s, rfl, hcs, hS2⟩ := s_ref hS
    have hlen : len = 3 := Nat.eq_of_beq_eq_true hc.1
    subst hlen
    have hob := hc.2 c hcs
    obtain ⟨hc1, hc2⟩ := aObj_s hob
    have hhas : aHas c b := by unfold aHas; rw [hc2]; trivial
    refine aT_step (pc1 := pc + 3) (lv1 := lv) (st1 := xval h (xty a b) c b :: s) (h1 := h) hq ?_ ?_
    · show x1 3 3 (xobj h c a _) = _
      rw [xobj_ok hg hob]
      rfl
    · split at h1
      · rename_i ht
        rw [ht]
        exact kk _ (aGo_s h1) _ _ _ ⟨hg, hf, hL, ⟨g_lful _, hS2⟩, hF, hT⟩
      · rename_i ht
        rw [ht]
        exact kk _ (aGo_s h1) _ _ _ ⟨hg, hf, hL, ⟨g_refF hg hF hcs (by rw [isR_obj hc2, ht]), hS2⟩, hF, hT⟩
      · rename_i ht
        rw [ht]
        exact kk _ (aGo_s h1) _ _ _ ⟨hg, hf, hL, ⟨g_refF hg hF hcs (by rw [isR_obj hc2, ht]), hS2⟩, hF, hT⟩
      · rename_i ht
        rw [ht]
        exact kk _ (aGo_s h1) _ _ _ ⟨hg, hf, hL, ⟨g_intF hg hF hcs hhas (by rw [isR_obj hc2, ht]), hS2⟩, hF, hT⟩
      · rename_i ht
        rw [ht]
        exact kk _ (aGo_s h1) _ _ _ ⟨hg, hf, hL, ⟨g_intF hg hF hcs hhas (by rw [isR_obj hc2, ht]), hS2⟩, hF, hT⟩
      · cases h1
  · cases ha
end AJ
