/-! calls -/
section AU
variable {lv : List Value} {h : xH}
theorem gs_len : ∀ (as : List aV) (vs : List Value), aGs lv h as vs → as.length = vs.length
  | [], vs, hg => by have e : vs = [] := hg; rw [e]; rfl
  | _ :: _, [], hg => hg.elim
  | _ :: r, _ :: s, hg => congrArg (· + 1) (gs_len r s hg.2)
theorem gs_drop : ∀ (n : Nat) (as : List aV) (vs : List Value), aGs lv h as vs → aGs lv h (as.drop n) (vs.drop n)
  | 0, _, _, hg => hg
  | _ + 1, [], vs, hg => by have e : vs = [] := hg; rw [e]; rfl
  | _ + 1, _ :: _, [], hg => hg.elim
  | n + 1, _ :: r, _ :: s, hg => gs_drop n r s hg.2
theorem gs_take : ∀ (n : Nat) (as : List aV) (vs : List Value), aGs lv h as vs → aGs lv h (as.take n) (vs.take n)
  | 0, _, _, _ => rfl
  | _ + 1, [], vs, hg => by have e : vs = [] := hg; rw [e]; rfl
  | _ + 1, _ :: _, [], hg => hg.elim
  | n + 1, _ :: r, _ :: s, hg => ⟨hg.1, gs_take n r s hg.2⟩
theorem gs_app : ∀ (as : List aV) (vs : List Value) {as' : List aV} {vs' : List Value}, aGs lv h as vs → aGs lv h as' vs' → aGs lv h (as ++ as') (vs ++ vs')
  | [], vs, _, _, hg, hg' => by have e : vs = [] := hg; rw [e]; exact hg'
  | _ :: _, [], _, _, hg, _ => hg.elim
  | _ :: r, _ :: s, _, _, hg, hg' => ⟨hg.1, gs_app r s hg.2 hg'⟩
theorem gs_rev : ∀ (as : List aV) (vs : List Value), aGs lv h as vs → aGs lv h as.reverse vs.reverse
  | [], vs, hg => by have e : vs = [] := hg; rw [e]; rfl
  | _ :: _, [], hg => hg.elim
  | a :: r, v :: s, hg => by
    rw [List.reverse_cons, List.reverse_cons]
    exact gs_app _ _ (gs_rev r s hg.2) ⟨hg.1, rfl⟩
theorem gs_cat : ∀ (as : List aV) (vs : List Value), aGs lv h as vs → as.all aKnown = true → (vs.map fun v => v.category).sum = aSumC as
  | [], vs, hg, _ => by have e : vs = [] := hg; rw [e]; rfl
  | _ :: _, [], hg, _ => hg.elim
  | a :: r, v :: s, hg, hk => by
    rw [List.all_cons, Bool.and_eq_true] at hk
    show (v.category :: s.map fun v => v.category).sum = (aCat a :: r.map aCat).sum
    rw [List.sum_cons, List.sum_cons, g_cat hg.1 hk.1, gs_cat r s hg.2 hk.2]
    rfl
theorem all_drop {as : List aV} (n : Nat) (hk : as.all aKnown = true) : (as.drop n).all aKnown = true := by
  rw [List.all_eq_true] at hk ⊢
  exact fun x hx => hk x (List.mem_of_mem_drop hx)
theorem all_take {as : List aV} (n : Nat) (hk : as.all aKnown = true) : (as.take n).all aKnown = true := by
  rw [List.all_eq_true] at hk ⊢
  exact fun x hx => hk x (List.mem_of_mem_take hx)
theorem le_g0 {a b : aV} {v : Value} (hl : aLe a b = true) (hg : aG0 a v) : aG0 b v := by
  rcases b with _ | ⟨lo, hi, o⟩ | ⟨lo, hi⟩ | cs | ks
  · trivial
  · rcases a with _ | ⟨lo', hi', o'⟩ | ⟨lo', hi'⟩ | cs' | ks'
    · cases hl
    · have h1 : (aile lo lo' && aile hi' hi && _) = true := hl
      rw [Bool.and_eq_true, Bool.and_eq_true] at h1
      obtain ⟨x, e, h2, h3⟩ := hg
      exact ⟨x, e, Int.le_trans (ai_le.mp h1.1.1) h2, Int.le_trans h3 (ai_le.mp h1.1.2)⟩
    · cases hl
    · cases hl
    · cases hl
  · rcases a with _ | ⟨lo', hi', o'⟩ | ⟨lo', hi'⟩ | cs' | ks'
    · cases hl
    · cases hl
    · have h1 : (aile lo lo' && aile hi' hi) = true := hl
      rw [Bool.and_eq_true] at h1
      obtain ⟨x, e, h2, h3⟩ := hg
      exact ⟨x, e, Int.le_trans (ai_le.mp h1.1) h2, Int.le_trans h3 (ai_le.mp h1.2)⟩
    · cases hl
    · cases hl
  · rcases a with _ | ⟨lo', hi', o'⟩ | ⟨lo', hi'⟩ | cs' | ks'
    · cases hl
    · cases hl
    · cases hl
    · obtain ⟨c, e, h2⟩ := hg
      exact ⟨c, e, amem_s (List.all_eq_true.mp hl c h2)⟩
    · cases hl
  · rcases a with _ | ⟨lo', hi', o'⟩ | ⟨lo', hi'⟩ | cs' | ks'
    · cases hl
    · cases hl
    · cases hl
    · cases hl
    · obtain ⟨c, e, h2⟩ := hg
      exact ⟨c, e, amem_s (List.all_eq_true.mp hl c h2)⟩
theorem les_args : ∀ (as bs : List aV) (vs : List Value), aLes as bs = true → aGs lv h as vs → aArgs bs vs
  | [], [], _, _, hg => hg
  | [], _ :: _, _, hl, _ => by cases hl
  | _ :: _, [], _, hl, _ => by cases hl
  | _ :: _, _ :: _, [], _, hg => hg.elim
  | a :: r, b :: s, v :: u, hl, hg => by
    have h1 : (aLe a b && aLes r s) = true := hl
    rw [Bool.and_eq_true] at h1
    exact ⟨le_g0 h1.1 (g_of hg.1), les_args r s u h1.2 hg.2⟩
theorem g0_g {a : aV} {v : Value} (hg : aG0 a v) : aG lv h (aD0 a) v := by
  rcases a with _ | ⟨lo, hi, o⟩ | ⟨lo, hi⟩ | cs | ks
  · trivial
  · obtain ⟨x, e, h1, h2⟩ := hg; exact ⟨x, e, h1, h2, trivial⟩
  · exact hg
  · exact hg
  · exact hg
end AU
