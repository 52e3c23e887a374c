/-! how a small step says that it went well -/
theorem x1_s {α : Type} {len n : Nat} {r : Option α} {v : α} (h : x1 len n r = some v) : len = n ∧ r = some v := by
  unfold x1 at h
  split at h
  · exact ⟨by assumption, h⟩
  · cases h
theorem xI_s {α : Type} {st : List Value} {f : Int32 → List Value → Option α} {v : α} (h : xI st f = some v) : ∃ x r, st = .int x :: r ∧ f x r = some v := by
  unfold xI at h
  split at h
  · exact ⟨_, _, rfl, h⟩
  · cases h
theorem xII_s {α : Type} {st : List Value} {f : Int32 → Int32 → List Value → Option α} {v : α} (h : xII st f = some v) : ∃ x y r, st = .int y :: .int x :: r ∧ f x y r = some v := by
  unfold xII at h
  split at h
  · exact ⟨_, _, _, rfl, h⟩
  · cases h
theorem xJ_s {α : Type} {st : List Value} {f : Int64 → List Value → Option α} {v : α} (h : xJ st f = some v) : ∃ x r, st = .long x :: r ∧ f x r = some v := by
  unfold xJ at h
  split at h
  · exact ⟨_, _, rfl, h⟩
  · cases h
theorem xJJ_s {α : Type} {st : List Value} {f : Int64 → Int64 → List Value → Option α} {v : α} (h : xJJ st f = some v) : ∃ x y r, st = .long y :: .long x :: r ∧ f x y r = some v := by
  unfold xJJ at h
  split at h
  · exact ⟨_, _, _, rfl, h⟩
  · cases h
theorem xV_s {α : Type} {st : List Value} {f : Value → List Value → Option α} {v : α} (h : xV st f = some v) : ∃ x r, st = x :: r ∧ f x r = some v := by
  unfold xV at h
  split at h
  · exact ⟨_, _, rfl, h⟩
  · cases h
theorem xA_s {α : Type} {st : List Value} {f : Nat → List Value → Option α} {v : α} (h : xA st f = some v) : ∃ x r, st = .ref x :: r ∧ f x r = some v := by
  unfold xA at h
  split at h
  · exact ⟨_, _, rfl, h⟩
  · cases h
theorem xldI_s {α : Type} {lv : List Value} {i : Nat} {f : Int32 → Option α} {v : α} (h : xldI lv i f = some v) : ∃ x, lv[i]? = some (.int x) ∧ f x = some v := by
  unfold xldI at h
  split at h
  · exact ⟨_, by assumption, h⟩
  · cases h
theorem xldJ_s {α : Type} {lv : List Value} {i : Nat} {f : Int64 → Option α} {v : α} (h : xldJ lv i f = some v) : ∃ x, lv[i]? = some (.long x) ∧ f x = some v := by
  unfold xldJ at h
  split at h
  · exact ⟨_, by assumption, h⟩
  · cases h
theorem xldA_s {α : Type} {lv : List Value} {i : Nat} {f : Value → Option α} {v : α} (h : xldA lv i f = some v) : ∃ x, lv[i]? = some x ∧ ((∃ a, x = .ref a) ∨ ∃ a, x = .retAddr a) ∧ f x = some v := by
  unfold xldA at h
  split at h
  · exact ⟨_, by assumption, Or.inl ⟨_, rfl⟩, h⟩
  · exact ⟨_, by assumption, Or.inr ⟨_, rfl⟩, h⟩
  · cases h
theorem xif_s {α : Type} {c : Prop} [Decidable c] {r : Option α} {v : α} (h : (if c then r else none) = some v) : c ∧ r = some v := by
  split at h
  · exact ⟨by assumption, h⟩
  · cases h
theorem xifn_s {α : Type} {c : Prop} [Decidable c] {r : Option α} {v : α} (h : (if c then none else r) = some v) : ¬ c ∧ r = some v := by
  split at h
  · cases h
  · exact ⟨by assumption, h⟩
/-! values as the machine has them -/
def xtr (B0 : Nat) (E : Nat → Nat) (v : Value) : Value := match v with
  | .ref a => .ref (B0 + a)
  | .retAddr k => .ref (E k)
  | w => w
theorem xtr_cat (B0 : Nat) (E : Nat → Nat) (v : Value) : (xtr B0 E v).category = v.category := by cases v <;> rfl
/-- a value that a local may be read as -/
def xiv (v : Value) : Bool := match v with
  | .float _ => false
  | .double _ => false
  | _ => true
def xas (B0 : Nat) (E : Nat → Nat) (lv : List Value) : List (Nat × Value) := (List.range lv.length).filterMap fun i => match lv[i]? with
  | some v => if xiv v then some (i, xtr B0 E v) else none
  | none => none
theorem xas_mem {B0 : Nat} {E : Nat → Nat} {lv : List Value} {i : Nat} {v : Value} (h : lv[i]? = some v) (hv : xiv v = true) : (i, xtr B0 E v) ∈ xas B0 E lv := by
  refine List.mem_filterMap.mpr ⟨i, List.mem_range.mpr (List.getElem?_eq_some_iff.mp h).1, ?_⟩
  simp [h, hv]
theorem xas_of {B0 : Nat} {E : Nat → Nat} {lv : List Value} {q : Nat × Value} (h : q ∈ xas B0 E lv) : ∃ v, lv[q.1]? = some v ∧ xiv v = true ∧ q.2 = xtr B0 E v := by
  obtain ⟨i, hi, h⟩ := List.mem_filterMap.mp h
  cases hv : lv[i]? with
  | none => simp [hv] at h
  | some v =>
    simp only [hv] at h
    split at h
    · cases h
      exact ⟨v, hv, by assumption, rfl⟩
    · cases h
/-- the locals of the machine and ours -/
def xL (B0 : Nat) (E : Nat → Nat) (ls : Array Slot) (nL : Nat) (lv : List Value) : Prop := lv.length = nL ∧ lv_has ls nL (xas B0 E lv)
theorem xL.at {B0 : Nat} {E : Nat → Nat} {ls : Array Slot} {nL : Nat} {lv : List Value} (h : xL B0 E ls nL lv) {i : Nat} {v : Value} (hi : lv[i]? = some v) (hv : xiv v = true) : ls[i]? = some (.val (xtr B0 E v)) := h.2.2.2 _ (xas_mem hi hv)
theorem xst1_len (lv : List Value) (i : Nat) (v : Value) : (xst1 lv i v).length = lv.length := by
  unfold xst1
  split
  · simp
  · split <;> simp
theorem xst1_of {lv : List Value} {i j : Nat} {v w : Value} (h : (xst1 lv i v)[j]? = some w) (hw : xiv w = true) : (j = i ∧ w = v) ∨ (j ≠ i ∧ lv[j]? = some w ∧ ¬ (j + 1 = i ∧ w.category = 2)) := by
  unfold xst1 at h
  split at h
  · by_cases hj : j = 0
    · subst hj
      rw [List.getElem?_set] at h
      simp at h
      exact Or.inl ⟨rfl, h.2.symm⟩
    · rw [List.getElem?_set_ne (fun q => hj q.symm)] at h
      exact Or.inr ⟨hj, h, by omega⟩
  · rename_i k
    split at h
    · rename_i x hx
      by_cases hj : j = k
      · subst hj
        rw [List.getElem?_set] at h
        simp at h
        rw [← h.2] at hw
        cases hw
      · rw [List.getElem?_set_ne (fun q => hj q.symm)] at h
        by_cases hj2 : j = k + 1
        · subst hj2
          rw [List.getElem?_set] at h
          simp at h
          exact Or.inl ⟨rfl, h.2.symm⟩
        · rw [List.getElem?_set_ne (fun q => hj2 q.symm)] at h
          exact Or.inr ⟨hj2, h, by omega⟩
    · rename_i hx
      by_cases hj2 : j = k + 1
      · subst hj2
        rw [List.getElem?_set] at h
        simp at h
        exact Or.inl ⟨rfl, h.2.symm⟩
      · rw [List.getElem?_set_ne (fun q => hj2 q.symm)] at h
        refine Or.inr ⟨hj2, h, fun q => ?_⟩
        have e : j = k := by omega
        subst e
        cases w with
        | long x => exact hx x h
        | double x => cases hw
        | _ => cases q.2
theorem xL.st1 {B0 : Nat} {E : Nat → Nat} {ls' : Array Slot} {nL i : Nat} {lv : List Value} {v : Value} (hl : lv.length = nL) (h : lv_has ls' nL ((i, xtr B0 E v) :: (xas B0 E lv).filter (fun q => !(q.1 == i) && !(q.1 + 1 == i && q.2.category == 2)))) : xL B0 E ls' nL (xst1 lv i v) := by
  refine ⟨by rw [xst1_len]; exact hl, h.1, h.2.1, fun q hq => ?_⟩
  obtain ⟨w, h1, h2, h3⟩ := xas_of hq
  obtain ⟨j, z⟩ := q
  dsimp only at h1 h3
  subst h3
  rcases xst1_of h1 h2 with ⟨rfl, rfl⟩ | ⟨a, b, c⟩
  · exact h.2.2 _ List.mem_cons_self
  · refine h.2.2 _ (List.mem_cons_of_mem _ (List.mem_filter.mpr ⟨xas_mem b h2, ?_⟩))
    simp only [xtr_cat, Bool.and_eq_true, Bool.not_eq_true', beq_eq_false_iff_ne, ne_eq, Bool.and_eq_false_iff]
    refine ⟨a, ?_⟩
    by_cases e1 : j + 1 = i
    · exact Or.inr (fun e2 => c ⟨e1, e2⟩)
    · exact Or.inl e1
theorem xL.st2 {B0 : Nat} {E : Nat → Nat} {ls' : Array Slot} {nL i : Nat} {lv : List Value} {v : Value} (hl : lv.length = nL) (h : lv_has ls' nL ((i, xtr B0 E v) :: (xas B0 E lv).filter (fun q => !(q.1 == i) && (!(q.1 == i + 1) && !(q.1 + 1 == i && q.2.category == 2))))) : xL B0 E ls' nL (xst2 lv i v) := by
  refine ⟨by rw [xst2, List.length_set, xst1_len]; exact hl, h.1, h.2.1, fun q hq => ?_⟩
  obtain ⟨w, h1, h2, h3⟩ := xas_of hq
  obtain ⟨j, z⟩ := q
  dsimp only at h1 h3
  subst h3
  have hj : j ≠ i + 1 := by
    intro e
    subst e
    rw [xst2, List.getElem?_set] at h1
    simp at h1
    rw [← h1.2] at h2
    cases h2
  rw [xst2, List.getElem?_set_ne (fun q => hj q.symm)] at h1
  rcases xst1_of h1 h2 with ⟨rfl, rfl⟩ | ⟨a, b, c⟩
  · exact h.2.2 _ List.mem_cons_self
  · refine h.2.2 _ (List.mem_cons_of_mem _ (List.mem_filter.mpr ⟨xas_mem b h2, ?_⟩))
    simp only [xtr_cat, Bool.and_eq_true, Bool.not_eq_true', beq_eq_false_iff_ne, ne_eq, Bool.and_eq_false_iff]
    refine ⟨a, hj, ?_⟩
    by_cases e1 : j + 1 = i
    · exact Or.inr (fun e2 => c ⟨e1, e2⟩)
    · exact Or.inl e1
set_option maxHeartbeats 4000000 in
/-- the pure instructions are the machine's -/
theorem x_pur {p : Program} {l : Launch} {e : Env} {R : Room} {s : State} {m : MethodId} {args : Array Value} {below : List Frame} {meth : Method} {c : Code} {H : Heap} {locs : List Loc} {cells slots : Nat} {Q : State → Prop} {cc : ByteArray} {pc : Nat} {ls : Array Slot} {nL : Nat} {B0 : Nat} {E : Nat → Nat} (hx : p.tables.exec = Jvm.exec) (hb : c.code = cc) {i : Instr} {len : Nat} {lv st lv' st' : List Value} (hdg : decode cc pc = .ok (i, len)) (hs : xpur i len lv st = some (lv', st')) (hl : xL B0 E ls nL lv)
    (kk : ∀ ls', xL B0 E ls' nL lv' → W p l e R s m args below meth c H locs cells slots Q (F0 m (pc + len) ls' (st'.map (xtr B0 E)))) : W p l e R s m args below meth c H locs cells slots Q (F0 m pc ls (st.map (xtr B0 E))) := by
  cases i with
  | iconst n =>
    obtain ⟨rfl, h1⟩ := x1_s hs
    cases h1
    exact lv_iconst hx hb hdg rfl (kk ls hl)
  | bipush n =>
    obtain ⟨rfl, h1⟩ := x1_s hs
    cases h1
    exact lv_bipush hx hb hdg rfl (kk ls hl)
  | sipush n =>
    obtain ⟨rfl, h1⟩ := x1_s hs
    cases h1
    exact lv_sipush hx hb hdg rfl (kk ls hl)
  | lconst n =>
    obtain ⟨rfl, h1⟩ := x1_s hs
    cases h1
    exact lv_lconst hx hb hdg rfl (kk ls hl)
  | iload_n k =>
    obtain ⟨rfl, h1⟩ := x1_s hs
    obtain ⟨x, hv, h2⟩ := xldI_s h1
    cases h2
    exact lv_iload_n hx hb hdg rfl (hl.at hv rfl) (kk ls hl)
  | iload k =>
    obtain ⟨rfl, h1⟩ := x1_s hs
    obtain ⟨x, hv, h2⟩ := xldI_s h1
    cases h2
    exact lv_iload hx hb hdg (hl.at hv rfl) (kk ls hl)
  | lload_n k =>
    obtain ⟨rfl, h1⟩ := x1_s hs
    obtain ⟨x, hv, h2⟩ := xldJ_s h1
    cases h2
    exact lv_lload_n hx hb hdg rfl (hl.at hv rfl) (kk ls hl)
  | lload k =>
    obtain ⟨rfl, h1⟩ := x1_s hs
    obtain ⟨x, hv, h2⟩ := xldJ_s h1
    cases h2
    exact lv_lload hx hb hdg (hl.at hv rfl) (kk ls hl)
  | aload_n k =>
    obtain ⟨rfl, h1⟩ := x1_s hs
    obtain ⟨x, hv, ⟨a, rfl⟩ | ⟨a, rfl⟩, h2⟩ := xldA_s h1
    · cases h2
      exact lv_aload_n hx hb hdg rfl (hl.at hv rfl) (kk ls hl)
    · cases h2
      exact lv_aload_n hx hb hdg rfl (hl.at hv rfl) (kk ls hl)
  | aload k =>
    obtain ⟨rfl, h1⟩ := x1_s hs
    obtain ⟨x, hv, ⟨a, rfl⟩ | ⟨a, rfl⟩, h2⟩ := xldA_s h1
    · cases h2
      exact lv_aload hx hb hdg (hl.at hv rfl) (kk ls hl)
    · cases h2
      exact lv_aload hx hb hdg (hl.at hv rfl) (kk ls hl)
  | istore_n k =>
    obtain ⟨rfl, h1⟩ := x1_s hs
    obtain ⟨x, r, rfl, h2⟩ := xI_s h1
    obtain ⟨hi, h3⟩ := xif_s h2
    cases h3
    exact lv_istore_n hx hb hdg rfl hl.2 (by rw [← hl.1]; exact hi) rfl (fun ls2 h2 => kk ls2 (xL.st1 hl.1 h2))
  | istore k =>
    obtain ⟨rfl, h1⟩ := x1_s hs
    obtain ⟨x, r, rfl, h2⟩ := xI_s h1
    obtain ⟨hi, h3⟩ := xif_s h2
    cases h3
    exact lv_istore hx hb hdg hl.2 (by rw [← hl.1]; exact hi) rfl (fun ls2 h2 => kk ls2 (xL.st1 hl.1 h2))
  | lstore_n k =>
    obtain ⟨rfl, h1⟩ := x1_s hs
    obtain ⟨x, r, rfl, h2⟩ := xJ_s h1
    obtain ⟨hi, h3⟩ := xif_s h2
    cases h3
    exact lv_lstore_n hx hb hdg rfl hl.2 (by rw [← hl.1]; exact hi) rfl (fun ls2 h2 => kk ls2 (xL.st2 hl.1 h2))
  | lstore k =>
    obtain ⟨rfl, h1⟩ := x1_s hs
    obtain ⟨x, r, rfl, h2⟩ := xJ_s h1
    obtain ⟨hi, h3⟩ := xif_s h2
    cases h3
    exact lv_lstore hx hb hdg hl.2 (by rw [← hl.1]; exact hi) rfl (fun ls2 h2 => kk ls2 (xL.st2 hl.1 h2))
  | astore_n k =>
    obtain ⟨rfl, h1⟩ := x1_s hs
    obtain ⟨x, r, rfl, h2⟩ := xA_s h1
    obtain ⟨hi, h3⟩ := xif_s h2
    cases h3
    exact lv_astore_n hx hb hdg rfl hl.2 (by rw [← hl.1]; exact hi) rfl (fun ls2 h2 => kk ls2 (xL.st1 hl.1 h2))
  | astore k =>
    obtain ⟨rfl, h1⟩ := x1_s hs
    obtain ⟨x, r, rfl, h2⟩ := xA_s h1
    obtain ⟨hi, h3⟩ := xif_s h2
    cases h3
    exact lv_astore hx hb hdg hl.2 (by rw [← hl.1]; exact hi) rfl (fun ls2 h2 => kk ls2 (xL.st1 hl.1 h2))
  | iinc k n =>
    obtain ⟨rfl, h1⟩ := x1_s hs
    obtain ⟨x, hv, h2⟩ := xldI_s h1
    cases h2
    obtain ⟨z, hz⟩ := List.getElem?_of_mem (xas_mem (B0 := B0) (E := E) hv rfl)
    exact lv_iinc hx hb hdg hl.2 hz rfl (by rw [← hl.1]; exact (List.getElem?_eq_some_iff.mp hv).1) rfl (fun ls2 h2 => kk ls2 (xL.st1 (v := .int (x + Int32.ofInt n)) hl.1 h2))
  | iadd =>
    obtain ⟨rfl, h1⟩ := x1_s hs
    obtain ⟨x, y, r, rfl, h2⟩ := xII_s h1
    cases h2
    exact lv_iadd hx hb hdg (kk ls hl)
  | isub =>
    obtain ⟨rfl, h1⟩ := x1_s hs
    obtain ⟨x, y, r, rfl, h2⟩ := xII_s h1
    cases h2
    exact lv_isub hx hb hdg (kk ls hl)
  | imul =>
    obtain ⟨rfl, h1⟩ := x1_s hs
    obtain ⟨x, y, r, rfl, h2⟩ := xII_s h1
    cases h2
    exact lv_imul hx hb hdg (kk ls hl)
  | iand =>
    obtain ⟨rfl, h1⟩ := x1_s hs
    obtain ⟨x, y, r, rfl, h2⟩ := xII_s h1
    cases h2
    exact lv_iand hx hb hdg (kk ls hl)
  | ior =>
    obtain ⟨rfl, h1⟩ := x1_s hs
    obtain ⟨x, y, r, rfl, h2⟩ := xII_s h1
    cases h2
    exact lv_ior hx hb hdg (kk ls hl)
  | ixor =>
    obtain ⟨rfl, h1⟩ := x1_s hs
    obtain ⟨x, y, r, rfl, h2⟩ := xII_s h1
    cases h2
    exact lv_ixor hx hb hdg (kk ls hl)
  | ishl =>
    obtain ⟨rfl, h1⟩ := x1_s hs
    obtain ⟨x, y, r, rfl, h2⟩ := xII_s h1
    cases h2
    exact lv_ishl hx hb hdg (kk ls hl)
  | ishr =>
    obtain ⟨rfl, h1⟩ := x1_s hs
    obtain ⟨x, y, r, rfl, h2⟩ := xII_s h1
    cases h2
    exact lv_ishr hx hb hdg (kk ls hl)
  | iushr =>
    obtain ⟨rfl, h1⟩ := x1_s hs
    obtain ⟨x, y, r, rfl, h2⟩ := xII_s h1
    cases h2
    exact lv_iushr hx hb hdg rfl (kk ls hl)
  | idiv =>
    obtain ⟨rfl, h1⟩ := x1_s hs
    obtain ⟨x, y, r, rfl, h2⟩ := xII_s h1
    obtain ⟨hn, h3⟩ := xifn_s h2
    cases h3
    exact lv_idiv hx hb hdg hn (kk ls hl)
  | irem =>
    obtain ⟨rfl, h1⟩ := x1_s hs
    obtain ⟨x, y, r, rfl, h2⟩ := xII_s h1
    obtain ⟨hn, h3⟩ := xifn_s h2
    cases h3
    exact lv_irem hx hb hdg hn (kk ls hl)
  | ineg =>
    obtain ⟨rfl, h1⟩ := x1_s hs
    obtain ⟨x, r, rfl, h2⟩ := xI_s h1
    cases h2
    exact lv_ineg hx hb hdg (kk ls hl)
  | i2l =>
    obtain ⟨rfl, h1⟩ := x1_s hs
    obtain ⟨x, r, rfl, h2⟩ := xI_s h1
    cases h2
    exact lv_i2l hx hb hdg rfl (kk ls hl)
  | i2b =>
    obtain ⟨rfl, h1⟩ := x1_s hs
    obtain ⟨x, r, rfl, h2⟩ := xI_s h1
    cases h2
    exact lv_i2b hx hb hdg rfl (kk ls hl)
  | l2i =>
    obtain ⟨rfl, h1⟩ := x1_s hs
    obtain ⟨x, r, rfl, h2⟩ := xJ_s h1
    cases h2
    exact lv_l2i hx hb hdg rfl (kk ls hl)
  | ladd =>
    obtain ⟨rfl, h1⟩ := x1_s hs
    obtain ⟨x, y, r, rfl, h2⟩ := xJJ_s h1
    cases h2
    exact lv_ladd hx hb hdg (kk ls hl)
  | lsub =>
    obtain ⟨rfl, h1⟩ := x1_s hs
    obtain ⟨x, y, r, rfl, h2⟩ := xJJ_s h1
    cases h2
    exact lv_lsub hx hb hdg (kk ls hl)
  | lmul =>
    obtain ⟨rfl, h1⟩ := x1_s hs
    obtain ⟨x, y, r, rfl, h2⟩ := xJJ_s h1
    cases h2
    exact lv_lmul hx hb hdg (kk ls hl)
  | land =>
    obtain ⟨rfl, h1⟩ := x1_s hs
    obtain ⟨x, y, r, rfl, h2⟩ := xJJ_s h1
    cases h2
    exact lv_land hx hb hdg (kk ls hl)
  | ldiv =>
    obtain ⟨rfl, h1⟩ := x1_s hs
    obtain ⟨x, y, r, rfl, h2⟩ := xJJ_s h1
    obtain ⟨hn, h3⟩ := xifn_s h2
    cases h3
    exact lv_ldiv hx hb hdg hn (kk ls hl)
  | lrem =>
    obtain ⟨rfl, h1⟩ := x1_s hs
    obtain ⟨x, y, r, rfl, h2⟩ := xJJ_s h1
    obtain ⟨hn, h3⟩ := xifn_s h2
    cases h3
    exact lv_lrem hx hb hdg hn (kk ls hl)
  | lcmp =>
    obtain ⟨rfl, h1⟩ := x1_s hs
    obtain ⟨x, y, r, rfl, h2⟩ := xJJ_s h1
    cases h2
    exact W.lcmp hx hb hdg (kk ls hl)
  | dup =>
    obtain ⟨rfl, h1⟩ := x1_s hs
    obtain ⟨v, r, rfl, h2⟩ := xV_s h1
    obtain ⟨hc, h3⟩ := xif_s h2
    cases h3
    exact lv_dup hx hb hdg (by rw [xtr_cat]; exact hc) (kk ls hl)
  | pop =>
    obtain ⟨rfl, h1⟩ := x1_s hs
    obtain ⟨v, r, rfl, h2⟩ := xV_s h1
    obtain ⟨hc, h3⟩ := xif_s h2
    cases h3
    exact lv_pop hx hb hdg (by rw [xtr_cat]; exact hc) (kk ls hl)
  | dup_x1 =>
    obtain ⟨rfl, h1⟩ := x1_s hs
    obtain ⟨v, r, rfl, h2⟩ := xV_s h1
    obtain ⟨w, r2, rfl, h3⟩ := xV_s h2
    obtain ⟨hc, h4⟩ := xif_s h3
    obtain ⟨hd, h5⟩ := xif_s h4
    cases h5
    exact lv_dup_x1 hx hb hdg (by rw [xtr_cat]; exact hc) (by rw [xtr_cat]; exact hd) (kk ls hl)
  | dup2_x1 =>
    obtain ⟨rfl, h1⟩ := x1_s hs
    obtain ⟨v, r, rfl, h2⟩ := xV_s h1
    obtain ⟨w, r2, rfl, h3⟩ := xV_s h2
    obtain ⟨hc, h4⟩ := xif_s h3
    obtain ⟨hd, h5⟩ := xif_s h4
    cases h5
    exact lv_dup2_x1_2 hx hb hdg (by rw [xtr_cat]; exact hc) (by rw [xtr_cat]; exact hd) (kk ls hl)
  | dup2 =>
    obtain ⟨rfl, h1⟩ := x1_s hs
    obtain ⟨v, r, rfl, h2⟩ := xV_s h1
    by_cases hc : v.category = 2
    · rw [if_pos hc] at h2
      cases h2
      exact lv_dup2_2 hx hb hdg (by rw [xtr_cat]; exact hc) (kk ls hl)
    · rw [if_neg hc] at h2
      obtain ⟨w, r2, rfl, h3⟩ := xV_s h2
      obtain ⟨hd, h4⟩ := xif_s h3
      cases h4
      exact lv_dup2_11 hx hb hdg (by rw [xtr_cat]; exact (lv_cat v).resolve_right hc) (by rw [xtr_cat]; exact hd) (kk ls hl)
  | _ => cases hs
