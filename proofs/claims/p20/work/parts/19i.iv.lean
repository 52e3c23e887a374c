/-! good heaps, frames, contracts -/
def aHas (c k : Nat) : Prop := match xsh c with
  | some (.inl _) => True
  | some (.inr (_, n)) => k < n
  | none => False
def aIn2 (q : Int × Int) (x : Int32) : Prop := q.1 ≤ x.toInt ∧ x.toInt ≤ q.2
def aGood (h : xH) : Prop := h.1 = 124 ∧ (∀ c k, aHas c k → aIn2 (aRng c k) (h.2.1 c k)) ∧ (∀ c k, aIsRb c k = true → ∃ d, d ∈ aRef c k ∧ h.2.2.2 c k = d + 1)
def aFr (mods : Nat) (h h' : xH) : Prop := ∀ c k, aisMod mods (Sum.inr (c, k)) = false → h'.2.1 c k = h.2.1 c k ∧ h'.2.2.1 c k = h.2.2.1 c k ∧ h'.2.2.2 c k = h.2.2.2 c k
def aFq (h : xH) (q : Nat × Nat × Int × Int) : Prop := (aIsRb q.1 q.2.1 = true → ∃ d : Nat, q.2.2.1 = (d : Int) ∧ h.2.2.2 q.1 q.2.1 = d + 1) ∧ (aIsRb q.1 q.2.1 = false → aIn2 q.2.2 (h.2.1 q.1 q.2.1))
def aFok (h : xH) (fs : aFs) : Prop := ∀ q ∈ fs, aFq h q
def aSt (j : Nat) (h0 : aE) (base : aK → Int) (S : aS) (lv st : List Value) (h : xH) : Prop := aGood h ∧ aFr (aMod j) h0.1 h ∧ aLs S.1 lv ∧ aGs lv h S.2.1 st ∧ aFok h S.2.2.1 ∧ aTs (base, h0) lv h S.2.2.2
def aRes (a : Option aV) (v : Option Value) : Prop := match a with
  | none => v = none
  | some w => ∃ u, v = some u ∧ aG0 w u
def aRfs (vs : List Value) (q : Nat × Int × Int) : Prop := ∃ x : Int32, vs[q.1]? = some (.int x) ∧ aIn2 q.2 x
abbrev aCs : Type := Option aV × List (Nat × Int × Int) × aFs × aU
def aCok (h0 : aE) (v : Option Value) (h : xH) (cs : aCs) : Prop := aRes cs.1 v ∧ (∀ q ∈ cs.2.1, aRfs h0.2 q) ∧ aFok h cs.2.2.1 ∧ aUok h0.1 h cs.2.2.2
def aPost (j : Nat) (h0 : aE) (v : Option Value) (h : xH) : Prop := aGood h ∧ aFr (aMod j) h0.1 h ∧ ∃ cs ∈ aOut j, aCok h0 v h cs
def aT (L : Nat) (xs : Nat → Int32) (d j : Nat) (h0 : aE) (pc : Nat) (lv st : List Value) (h : xH) : Prop := ∃ v h', xEv L xs d (aJ j) pc lv st h v h' ∧ aPost j h0 v h'
def aArgs (as : List aV) (vs : List Value) : Prop := match as with
  | [] => vs = []
  | a :: r => match vs with
    | [] => False
    | v :: s => aG0 a v ∧ aArgs r s
def aOK (j : Nat) : Prop := ∀ (L : Nat) (xs : Nat → Int32) (d : Nat) (vs : List Value) (h : xH), aDep j ≤ d → aGood h → aArgs (aIns j) vs → aFok h (aPre j) → aT L xs d j (h, vs) 0 (xent vs (xml (aJ j))) [] h
theorem aFr_refl (mods : Nat) (h : xH) : aFr mods h h := fun _ _ _ => ⟨rfl, rfl, rfl⟩
theorem amem_c {x : Nat} {l : List Nat} (h : x ∈ l) : amem x l = true := List.any_eq_true.mpr ⟨x, h, Nat.beq_refl x⟩
theorem subm_s {m m' : Nat} (hs : aSubm m m' = true) {i : Nat} (h : Nat.testBit m' i = false) : Nat.testBit m i = false := by
  have e : m &&& m' = m := Nat.eq_of_beq_eq_true hs
  rw [← e, Nat.testBit_and, h, Bool.and_false]
theorem aFr_trans {m m' : Nat} {h0 h1 h2 : xH} (hs : aSubm m m' = true) (f1 : aFr m' h0 h1) (f2 : aFr m h1 h2) : aFr m' h0 h2 := by
  intro c k hck
  obtain ⟨a1, a2, a3⟩ := f1 c k hck
  obtain ⟨b1, b2, b3⟩ := f2 c k (subm_s hs hck)
  exact ⟨b1.trans a1, b2.trans a2, b3.trans a3⟩
theorem aT_step {L : Nat} {xs : Nat → Int32} {d j : Nat} {h0 : aE} {pc : Nat} {lv st : List Value} {h : xH} {q : xQ} {pc1 : Nat} {lv1 st1 : List Value} {h1 : xH} (hq : xins (aJ j) pc = some q) (hs : xstep L xs d (aJ j) q pc lv st h = some (.inl (pc1, lv1, st1, h1))) (hk : aT L xs d j h0 pc1 lv1 st1 h1) : aT L xs d j h0 pc lv st h := by
  obtain ⟨v, h', he, hp⟩ := hk
  exact ⟨v, h', ev_step hq hs he, hp⟩
theorem aT_ret {L : Nat} {xs : Nat → Int32} {d j : Nat} {h0 : aE} {pc : Nat} {lv st : List Value} {h : xH} {q : xQ} {v : Option Value} (hq : xins (aJ j) pc = some q) (hs : xstep L xs d (aJ j) q pc lv st h = some (.inr (.inl v))) (hp : aPost j h0 v h) : aT L xs d j h0 pc lv st h := ⟨v, h, ev_ret hq hs, hp⟩
theorem aT_call {L : Nat} {xs : Nat → Int32} {d j : Nat} {h0 : aE} {pc : Nat} {lv st : List Value} {h : xH} {q : xQ} {j1 : Nat} {as rest : List Value} (hq : xins (aJ j) pc = some q) (hs : xstep L xs (d + 1) (aJ j) q pc lv st h = some (.inr (.inr (aJ j1, as, rest)))) (hc : aT L xs d j1 (h, as) 0 (xent as (xml (aJ j1))) [] h) (hk : ∀ v1 h1, aPost j1 (h, as) v1 h1 → aT L xs (d + 1) j h0 (pc + 3) lv (v1.toList ++ rest) h1) : aT L xs (d + 1) j h0 pc lv st h := by
  obtain ⟨v1, h1, he, hp⟩ := hc
  obtain ⟨v, h', he2, hp2⟩ := hk v1 h1 hp
  exact ⟨v, h', ev_call hq hs he he2, hp2⟩
section AH
variable {h : xH} {c k c' k' : Nat}
theorem hI_same (v : Int32) : (xsetI h c k v).2.1 c k = v := by
  show va_up h.2.1 c (upd (h.2.1 c) k v) c k = v
  rw [va_up_self]
  simp [upd]
theorem hI_ne (v : Int32) (hne : ¬ (c' = c ∧ k' = k)) : (xsetI h c k v).2.1 c' k' = h.2.1 c' k' := by
  show va_up h.2.1 c (upd (h.2.1 c) k v) c' k' = h.2.1 c' k'
  by_cases e : c' = c
  · subst e
    rw [va_up_self]
    have : k' ≠ k := fun z => hne ⟨rfl, z⟩
    simp [upd, this]
  · rw [va_up_ne _ _ e]
theorem hL_ne (v : Int64) (hne : ¬ (c' = c ∧ k' = k)) : (xsetL h c k v).2.2.1 c' k' = h.2.2.1 c' k' := by
  show va_up h.2.2.1 c (vp_updL (h.2.2.1 c) k v) c' k' = h.2.2.1 c' k'
  by_cases e : c' = c
  · subst e
    rw [va_up_self]
    have : k' ≠ k := fun z => hne ⟨rfl, z⟩
    simp [vp_updL, this]
  · rw [va_up_ne _ _ e]
theorem hR_same (v : Nat) : (xsetR h c k v).2.2.2 c k = v := by
  show va_up h.2.2.2 c (va_up (h.2.2.2 c) k v) c k = v
  rw [va_up_self, va_up_self]
theorem hR_ne (v : Nat) (hne : ¬ (c' = c ∧ k' = k)) : (xsetR h c k v).2.2.2 c' k' = h.2.2.2 c' k' := by
  show va_up h.2.2.2 c (va_up (h.2.2.2 c) k v) c' k' = h.2.2.2 c' k'
  by_cases e : c' = c
  · subst e
    rw [va_up_self, va_up_ne]
    exact fun z => hne ⟨rfl, z⟩
  · rw [va_up_ne _ _ e]
/-- an int is set within its range: the heap stays good -/
theorem good_I {v : Int32} (hg : aGood h) (hv : aIn2 (aRng c k) v) : aGood (xsetI h c k v) := by
  refine ⟨hg.1, fun c' k' hh => ?_, hg.2.2⟩
  by_cases e : c' = c ∧ k' = k
  · obtain ⟨rfl, rfl⟩ := e
    rw [hI_same]
    exact hv
  · rw [hI_ne v e]
    exact hg.2.1 c' k' hh
theorem good_L {v : Int64} (hg : aGood h) : aGood (xsetL h c k v) := hg
theorem good_R {d : Nat} (hg : aGood h) (hd : d ∈ aRef c k) : aGood (xsetR h c k (d + 1)) := by
  refine ⟨hg.1, hg.2.1, fun c' k' hh => ?_⟩
  by_cases e : c' = c ∧ k' = k
  · obtain ⟨rfl, rfl⟩ := e
    exact ⟨d, hd, hR_same _⟩
  · rw [hR_ne _ e]
    exact hg.2.2 c' k' hh
theorem fr_I {m : Nat} {h0 : xH} {v : Int32} (hf : aFr m h0 h) (hm : aisMod m (Sum.inr (c, k)) = true) : aFr m h0 (xsetI h c k v) := by
  intro c' k' hck
  have e : ¬ (c' = c ∧ k' = k) := fun z => by rw [z.1, z.2, hm] at hck; cases hck
  obtain ⟨a1, a2, a3⟩ := hf c' k' hck
  exact ⟨(hI_ne v e).trans a1, a2, a3⟩
theorem fr_L {m : Nat} {h0 : xH} {v : Int64} (hf : aFr m h0 h) (hm : aisMod m (Sum.inr (c, k)) = true) : aFr m h0 (xsetL h c k v) := by
  intro c' k' hck
  have e : ¬ (c' = c ∧ k' = k) := fun z => by rw [z.1, z.2, hm] at hck; cases hck
  obtain ⟨a1, a2, a3⟩ := hf c' k' hck
  exact ⟨a1, (hL_ne v e).trans a2, a3⟩
theorem fr_R {m : Nat} {h0 : xH} {v : Nat} (hf : aFr m h0 h) (hm : aisMod m (Sum.inr (c, k)) = true) : aFr m h0 (xsetR h c k v) := by
  intro c' k' hck
  have e : ¬ (c' = c ∧ k' = k) := fun z => by rw [z.1, z.2, hm] at hck; cases hck
  obtain ⟨a1, a2, a3⟩ := hf c' k' hck
  exact ⟨a1, a2, (hR_ne v e).trans a3⟩
theorem keep_I {lv : List Value} {v : Int32} {f : aK → Bool} (hf : f (Sum.inr (c, k)) = true) : aKeep f lv h lv (xsetI h c k v) := by
  refine ⟨?_, fun _ _ _ => rfl⟩
  intro x w hx hc
  rcases x with i | ⟨c', k'⟩
  · exact hc
  · have e : ¬ (c' = c ∧ k' = k) := fun z => by rw [z.1, z.2, hf] at hx; cases hx
    show some ((xsetI h c k v).2.1 c' k').toInt = some w
    rw [hI_ne v e]
    exact hc
/-- what facts say of a place -/
theorem fk_s {fs : aFs} (hg : aGood h) (hf : aFok h fs) (hh : aHas c k) (hr : aIsRb c k = false) : aIn2 (aFk aRng fs c k) (h.2.1 c k) := by
  unfold aFk
  split
  · rename_i q hq
    have h1 := List.find?_some hq
    rw [Bool.and_eq_true] at h1
    have h2 := hf q (List.mem_of_find?_eq_some hq)
    unfold aFq at h2
    rw [Nat.eq_of_beq_eq_true h1.1, Nat.eq_of_beq_eq_true h1.2] at h2
    exact h2.2 hr
  · exact hg.2.1 c k hh
theorem fkR_s {fs : aFs} {z : Int} (hf : aFok h fs) (hr : aIsRb c k = true) (hz : aFkR fs c k = some z) : ∃ d : Nat, z = (d : Int) ∧ h.2.2.2 c k = d + 1 := by
  unfold aFkR at hz
  split at hz
  · rename_i q hq
    have h1 := List.find?_some hq
    rw [Bool.and_eq_true] at h1
    have h2 := hf q (List.mem_of_find?_eq_some hq)
    unfold aFq at h2
    rw [Nat.eq_of_beq_eq_true h1.1, Nat.eq_of_beq_eq_true h1.2] at h2
    rw [← Option.some.inj hz]
    exact h2.1 hr
  · cases hz
theorem fq_keep {h' : xH} {q : Nat × Nat × Int × Int} (hq : aFq h q) (e1 : h'.2.1 q.1 q.2.1 = h.2.1 q.1 q.2.1) (e2 : h'.2.2.2 q.1 q.2.1 = h.2.2.2 q.1 q.2.1) : aFq h' q := by
  unfold aFq at hq ⊢
  rw [e1, e2]
  exact hq
theorem fok_del {fs : aFs} {f : Nat → Nat → Bool} {h' : xH} (hf : aFok h fs) (hk : ∀ c k, f c k = false → h'.2.1 c k = h.2.1 c k ∧ h'.2.2.2 c k = h.2.2.2 c k) : aFok h' (aFdel f fs) := by
  intro q hq
  have h1 := List.mem_filter.mp hq
  have h2 : f q.1 q.2.1 = false := not_s h1.2
  obtain ⟨e1, e2⟩ := hk _ _ h2
  exact fq_keep (hf q h1.1) e1 e2
theorem fok_L {fs : aFs} {h' : xH} (hf : aFok h fs) (e1 : h'.2.1 = h.2.1) (e2 : h'.2.2.2 = h.2.2.2) : aFok h' fs := fun q hq => fq_keep (hf q hq) (by rw [e1]) (by rw [e2])
theorem isR_obj {a : Nat} (hs : xsh c = some (.inl a)) : aIsRb c k = (match xty a k with | .object _ => true | .array _ => true | _ => false) := by
  unfold aIsRb
  rw [hs]
  rfl
theorem isR_arr {t : FieldType} {n : Nat} (hs : xsh c = some (.inr (t, n))) : aIsRb c k = false := by
  unfold aIsRb
  rw [hs]
end AH
