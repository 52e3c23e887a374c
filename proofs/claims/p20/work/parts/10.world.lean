/-! the abstract heap as a world of the kit -/
def xce (B0 : Nat) (E : Nat → Nat) (cA : FieldType → ClassId) (h : xH) (c : Nat) : va_E := match xsh c with
  | some (.inl ci) => .inr (ci, (List.range (xnf ci)).map fun k => xtr B0 E (xval h (xty ci k) c k))
  | some (.inr (t, n)) => .inl (cA t, n, if xisJ t then .inr (.inl (h.2.2.1 c)) else .inl (h.2.1 c))
  | none => .inr (0, [])
def xw (B0 : Nat) (E : Nat → Nat) (cA : FieldType → ClassId) (h : xH) : va_W := (List.range h.1).map fun c => (B0 + c, xce B0 E cA h c)
theorem xw_get {B0 : Nat} {E : Nat → Nat} {cA : FieldType → ClassId} {h : xH} {c : Nat} (hc : c < h.1) : (xw B0 E cA h)[c]? = some (B0 + c, xce B0 E cA h c) := by simp [xw, hc]
theorem xw_of {B0 : Nat} {E : Nat → Nat} {cA : FieldType → ClassId} {h : xH} {c : Nat} {q : Nat × va_E} (hq : (xw B0 E cA h)[c]? = some q) : c < h.1 ∧ q = (B0 + c, xce B0 E cA h c) := by
  have hc : c < h.1 := by have := (List.getElem?_eq_some_iff.mp hq).1; simpa [xw] using this
  rw [xw_get hc] at hq
  exact ⟨hc, (Option.some.inj hq).symm⟩
theorem xw_D {B0 : Nat} {E : Nat → Nat} {cA : FieldType → ClassId} {h : xH} : va_D (fun q => B0 ≤ q) (xw B0 E cA h) := by
  refine ⟨fun i j p q hp hq e => ?_, fun k q hq => ?_⟩
  · obtain ⟨-, rfl⟩ := xw_of hp
    obtain ⟨-, rfl⟩ := xw_of hq
    dsimp only at e
    omega
  · obtain ⟨-, rfl⟩ := xw_of hq
    exact Nat.le_add_right _ _
theorem xw_set {B0 : Nat} {E : Nat → Nat} {cA : FieldType → ClassId} {h h' : xH} {c : Nat} {ee : va_E} (hn : h'.1 = h.1) (he : xce B0 E cA h' c = ee) (ho : ∀ k, k ≠ c → xce B0 E cA h' k = xce B0 E cA h k) : (xw B0 E cA h).set c (B0 + c, ee) = xw B0 E cA h' := by
  apply List.ext_getElem?
  intro k
  by_cases hk : k < h.1
  · rw [xw_get (h := h') (by rw [hn]; exact hk)]
    by_cases e : k = c
    · subst e
      rw [List.getElem?_set_self (by simpa [xw] using hk), he]
    · rw [List.getElem?_set_ne (fun q => e q.symm), xw_get hk, ho k e]
  · rw [List.getElem?_eq_none (by simp [xw]; omega), List.getElem?_eq_none (by simp [xw, hn]; omega)]
/-- the machine's heap H holds the abstract heap h, from B0 on -/
def xRep (D : va_G) (cA : FieldType → ClassId) (B0 : Nat) (E : Nat → Nat) (h : xH) (H : Heap) : Prop := (h.1 < xN → H.size = B0 + h.1) ∧ va_P D xcl (xw B0 E cA h) H
/-- two heaps agree at the cell c -/
def xsame (h h' : xH) (c : Nat) : Prop := h'.2.1 c = h.2.1 c ∧ h'.2.2.1 c = h.2.2.1 c ∧ h'.2.2.2 c = h.2.2.2 c
theorem xce_same {B0 : Nat} {E : Nat → Nat} {cA : FieldType → ClassId} {h h' : xH} {c : Nat} (hs : xsame h h' c) : xce B0 E cA h' c = xce B0 E cA h c := by
  obtain ⟨a, b, d⟩ := hs
  have v : ∀ t k, xval h' t c k = xval h t c k := by
    intro t k
    unfold xval
    split <;> simp only [a, b, d]
  unfold xce
  split
  · simp only [v]
  · rw [a, b]
  · rfl
theorem xsetI_same {h : xH} {c k : Nat} {v : Int32} {q : Nat} (hq : q ≠ c) : xsame h (xsetI h c k v) q := ⟨if_neg hq, rfl, rfl⟩
theorem xsetL_same {h : xH} {c k : Nat} {v : Int64} {q : Nat} (hq : q ≠ c) : xsame h (xsetL h c k v) q := ⟨rfl, if_neg hq, rfl⟩
theorem xsetR_same {h : xH} {c k : Nat} {v : Nat} {q : Nat} (hq : q ≠ c) : xsame h (xsetR h c k v) q := ⟨rfl, rfl, if_neg hq⟩
theorem xnew_same {h : xH} {q : Nat} (hq : q ≠ h.1) : xsame h (xnew h) q := ⟨if_neg hq, if_neg hq, if_neg hq⟩
/-- what a field's store does to the world -/
theorem xput_s {B0 : Nat} {E : Nat → Nat} {h h' : xH} {t : FieldType} {c b : Nat} {v : Value} (hp : xput h t c b v = some h') :
    h'.1 = h.1 ∧ (∀ q, q ≠ c → xsame h h' q) ∧ xval h' t c b = v ∧ (∀ k, k ≠ b → ∀ t', xval h' t' c k = xval h t' c k) ∧ narrow t (xtr B0 E v) = xtr B0 E v ∧ fits t (xtr B0 E v) = true := by
  have kI : ∀ x k, k ≠ b → ∀ t', xval (xsetI h c b x) t' c k = xval h t' c k := by
    intro x k hk t'
    unfold xval
    split <;> simp [xsetI, va_up, upd, hk]
  have kL : ∀ x k, k ≠ b → ∀ t', xval (xsetL h c b x) t' c k = xval h t' c k := by
    intro x k hk t'
    unfold xval
    split <;> simp [xsetL, va_up, vp_updL, hk]
  have kR : ∀ x k, k ≠ b → ∀ t', xval (xsetR h c b x) t' c k = xval h t' c k := by
    intro x k hk t'
    unfold xval
    split <;> simp [xsetR, va_up, hk]
  unfold xput at hp
  split at hp
  · split at hp
    · cases hp
      exact ⟨rfl, fun q hq => xsetI_same hq, by simp [xval, xsetI, va_up, upd], kI _, rfl, rfl⟩
    · cases hp
  · split at hp
    · rename_i x
      by_cases h0 : x = 0
      · rw [if_pos h0] at hp
        cases hp
        refine ⟨rfl, fun q hq => xsetI_same hq, by simp [xval, xsetI, va_up, upd], kI _, ?_, ?_⟩ <;> subst h0 <;> rfl
      · rw [if_neg h0] at hp
        obtain ⟨h1, hp⟩ := xif_s hp
        cases hp
        refine ⟨rfl, fun q hq => xsetI_same hq, by simp [xval, xsetI, va_up, upd], kI _, ?_, ?_⟩ <;> subst h1 <;> rfl
    · cases hp
  · split at hp
    · cases hp
      exact ⟨rfl, fun q hq => xsetL_same hq, by simp [xval, xsetL, va_up, vp_updL], kL _, rfl, rfl⟩
    · cases hp
  · split at hp
    · cases hp
      exact ⟨rfl, fun q hq => xsetR_same hq, by simp [xval, xsetR, va_up, xref], kR _, rfl, rfl⟩
    · cases hp
      exact ⟨rfl, fun q hq => xsetR_same hq, by simp [xval, xsetR, va_up, xref], kR _, rfl, rfl⟩
    · cases hp
  · split at hp
    · cases hp
      exact ⟨rfl, fun q hq => xsetR_same hq, by simp [xval, xsetR, va_up, xref], kR _, rfl, rfl⟩
    · cases hp
      exact ⟨rfl, fun q hq => xsetR_same hq, by simp [xval, xsetR, va_up, xref], kR _, rfl, rfl⟩
    · cases hp
  · cases hp
theorem xobj_s {α : Type} {h : xH} {c a : Nat} {r : Option α} {v : α} (hh : xobj h c a r = some v) : c < h.1 ∧ xsh c = some (.inl a) ∧ r = some v := by
  unfold xobj at hh
  cases hb : Nat.ble h.1 c with
  | true => rw [hb] at hh; cases hh
  | false =>
    rw [hb] at hh
    have hc : c < h.1 := Nat.not_le.mp (fun q => by rw [Nat.ble_eq.mpr q] at hb; cases hb)
    dsimp only [cond_false] at hh
    split at hh
    · rename_i ci hci
      cases he : Nat.beq ci a with
      | false => rw [he] at hh; cases hh
      | true =>
        rw [he] at hh
        have e := Nat.eq_of_beq_eq_true he
        subst e
        exact ⟨hc, hci, hh⟩
    · cases hh
theorem xarr_s {α : Type} {h : xH} {c : Nat} {f : FieldType → Nat → Option α} {v : α} (hh : xarr h c f = some v) : ∃ t n, c < h.1 ∧ xsh c = some (.inr (t, n)) ∧ f t n = some v := by
  unfold xarr at hh
  cases hb : Nat.ble h.1 c with
  | true => rw [hb] at hh; cases hh
  | false =>
    rw [hb] at hh
    have hc : c < h.1 := Nat.not_le.mp (fun q => by rw [Nat.ble_eq.mpr q] at hb; cases hb)
    dsimp only [cond_false] at hh
    split at hh
    · exact ⟨_, _, hc, by assumption, hh⟩
    · cases hh
theorem xin_s {α : Type} {i : Int32} {n : Nat} {r : Option α} {v : α} (h : xin i n r = some v) : vp_in i n ∧ r = some v := xifn_s h
theorem xcond_s {α : Type} {b : Bool} {r : Option α} {v : α} (h : (bif b then r else none) = some v) : b = true ∧ r = some v := by
  cases b with
  | true => exact ⟨rfl, h⟩
  | false => cases h
theorem xisI_s {t : FieldType} (h : xisI t = true) : t = .int := by cases t <;> first | rfl | cases h
theorem xisJ_s {t : FieldType} (h : xisJ t = true) : t = .long := by cases t <;> first | rfl | cases h
theorem xisB_s {t : FieldType} (h : xisB t = true) : t = .byte := by cases t <;> first | rfl | cases h
theorem xisZ_s {t : FieldType} (h : xisZ t = true) : t = .boolean := by cases t <;> first | rfl | cases h
/-- the words that go along with every call -/
def xgw : List Cond := lw_tbl.filter goodWord
theorem xword {args : Array Value} {s : State} (hts : ∀ w ∈ xgw, w.before args s = true) {i : Nat} {w : Cond} (h : lw_tbl[i]? = some w) (hg : goodWord w = true) : w.before args s = true := hts w (List.mem_filter.mpr ⟨List.mem_of_getElem? h, hg⟩)
theorem xcl_in' {ci : Nat} (h : ci < 13) : ∀ w ∈ u_ws (xcn ci) (xT ci) (xnf ci), w ∈ xgw := by
  intro w hw
  refine List.mem_filter.mpr ⟨xcl_in ci h w hw, ?_⟩
  obtain ⟨k, -, rfl⟩ := List.mem_map.mp hw
  unfold u_lay
  split <;> rfl
def xtys (cA : FieldType → ClassId) : List (ClassId × FieldType) := [(cA .int, .int), (cA .long, .long), (cA .byte, .byte), (cA .boolean, .boolean)]
/-- what was there before: a static row, texts -/
def xO (B0 : Nat) (E : Nat → Nat) (U : State) (H : Heap) : Prop :=
  va_Z "OneHead$Pieces" "ONES" "[I" (.ref (E 1)) (fun q => B0 ≤ q) U H ∧ va_T .int (E 1) 16 (fun j => .int (xones j)) (fun q => B0 ≤ q) U H ∧ va_Z "java/lang/String" "COMPACT_STRINGS" "Z" (.int 1) (fun q => B0 ≤ q) U H ∧ (∃ adV : Nat → Nat, vk_S 7 xslens xsbyt (fun i => E (i + 2)) adV (fun q => B0 ≤ q) U H) ∧ (∀ (i k : Nat) (own : String) (idx : Nat), lw_tbl[i]? = some (.stringRef own idx (xstrs.getD k "")) → k < 7 → vk_R own idx (xstrs.getD k "") (E (k + 2)) U) ∧ va_Zq "jdk/internal/util/Preconditions" "SIOOBE_FORMATTER" "Ljava/util/function/BiFunction;" (fun q => B0 ≤ q) U H
theorem xO.kept {B0 : Nat} {E : Nat → Nat} {U : State} {H H1 : Heap} (h : xO B0 E U H) (hq : ∀ a : Nat, a < H.size → ¬ B0 ≤ a → H1[a]? = H[a]?) : xO B0 E U H1 := by
  obtain ⟨h1, h2, h3, ⟨adV, h4⟩, h5, h6⟩ := h
  exact ⟨h1.kept hq, h2.kept hq, h3.kept hq, ⟨adV, h4.kept hq⟩, h5, h6.kept hq⟩
theorem xO.warm {B0 : Nat} {E : Nat → Nat} {s U : State} {H : Heap} (hW : s.WarmedH U.vm) (h : xO B0 E s H) : xO B0 E U H := by
  obtain ⟨h1, h2, h3, ⟨adV, h4⟩, h5, h6⟩ := h
  exact ⟨va_Z.moved hW.alike h1, va_T.moved hW.alike h2, va_Z.moved hW.alike h3, ⟨adV, vk_S.moved hW.alike h4⟩, fun i k own idx hw hk => vk_R.warm hW (h5 i k own idx hw hk), va_Zq.moved hW.alike h6⟩
theorem xO.same {B0 : Nat} {E : Nat → Nat} {s U : State} {H : Heap} (hv : U.vm = s.vm) (h : xO B0 E s H) : xO B0 E U H := by
  have ha : s.vm.Alike U.vm := by rw [hv]; exact Vm.Alike.refl _
  obtain ⟨h1, h2, h3, ⟨adV, h4⟩, h5, h6⟩ := h
  exact ⟨va_Z.moved ha h1, va_T.moved ha h2, va_Z.moved ha h3, ⟨adV, vk_S.moved ha h4⟩, fun i k own idx hw hk => vk_R.same hv (h5 i k own idx hw hk), va_Zq.moved ha h6⟩
/-- what was there before: classes, nest mates, the script -/
def xG (D : va_G) (cA : FieldType → ClassId) (B0 : Nat) (E : Nat → Nat) (L : Nat) (xs : Nat → Int32) (U : State) : Prop :=
  va_K D xcl (xtys cA) U ∧ (∀ (i : Nat) (own : String) (idx : Nat) (y : MethodName) (host : String), lw_tbl[i]? = some (.methodLinkNest own idx y host) → va_Nw (.methodLinkNest own idx y host) U) ∧ E 0 < B0 ∧ va_X (E 0) L xs U U.heap ∧ B0 ≤ U.heap.size ∧ xO B0 E U U.heap
theorem xsh_lt {q : Nat} {r : Nat ⊕ (FieldType × Nat)} (h : xsh q = some r) : q < xN := by
  refine Nat.not_le.mp fun hle => ?_
  have hle : 124 ≤ q := hle
  by_cases h2 : q < 132
  · have hall : ∀ k, k < 8 → xsh (124 + k) = none := by decide +kernel
    have := hall (q - 124) (by omega)
    rw [show 124 + (q - 124) = q by omega, h] at this
    cases this
  · unfold xsh at h
    have hr : xsr[q / 12]? = none := List.getElem?_eq_none (by show 11 ≤ q / 12; omega)
    rw [hr] at h
    cases h
