/-! THE RUN of the abstract machine is the machine's -/
theorem xslots_mono {a b : Nat} (h : a ≤ b) : xslots a ≤ xslots b := by
  induction h with
  | refl => exact Nat.le_refl _
  | step _ ih => exact Nat.le_trans ih (Nat.le_add_right _ _)
/-- what holds of the outcome of a step, if there is one -/
def xall (P : xR → Prop) (o : Option xR) : Prop := ∀ r, o = some r → P r
section XALL
variable {P : xR → Prop} {h : xH}
theorem xall_none : xall P none := fun _ e => by cases e
theorem xall_some {r : xR} (hr : P r) : xall P (some r) := fun q e => by cases e; exact hr
theorem xall_go {pc : Nat} {lv st : List Value} {h' : xH} (hh : P (.inl (pc, lv, st, h'))) : xall P (xgo pc lv st h') := fun q e => by cases e; exact hh
theorem xall_x1 {a b : Nat} {r : Option xR} (hr : xall P r) : xall P (x1 a b r) := by unfold x1; split; exact hr; exact xall_none
theorem xall_obj {c a : Nat} {r : Option xR} (hr : xall P r) : xall P (xobj h c a r) := fun q e => hr q (xobj_s e).2.2
theorem xall_arr {c : Nat} {f : FieldType → Nat → Option xR} (hr : ∀ t n, xall P (f t n)) : xall P (xarr h c f) := by
  intro q e
  obtain ⟨t, n, -, -, h3⟩ := xarr_s e
  exact hr t n q h3
theorem xall_in {i : Int32} {n : Nat} {r : Option xR} (hr : xall P r) : xall P (xin i n r) := fun q e => hr q (xin_s e).2
theorem xall_cond {b : Bool} {r r2 : Option xR} (hr : xall P r) (hr2 : xall P r2) : xall P (bif b then r else r2) := by cases b; exact hr2; exact hr
theorem xall_call {j na : Nat} {st : List Value} (hr : P (.inr (.inr (j, (st.take na).reverse, st.drop na)))) : xall P (xcall j na st) := fun q e => by
  obtain ⟨-, -, -, h4⟩ := xcall_s e
  subst h4
  exact hr
theorem xall_I {st : List Value} {f : Int32 → List Value → Option xR} (hr : ∀ x r, xall P (f x r)) : xall P (xI st f) := fun q e => by
  obtain ⟨x, r, -, h2⟩ := xI_s e
  exact hr x r q h2
theorem xall_II {st : List Value} {f : Int32 → Int32 → List Value → Option xR} (hr : ∀ x y r, xall P (f x y r)) : xall P (xII st f) := fun q e => by
  obtain ⟨x, y, r, -, h2⟩ := xII_s e
  exact hr x y r q h2
theorem xall_A {st : List Value} {f : Nat → List Value → Option xR} (hr : ∀ x r, xall P (f x r)) : xall P (xA st f) := fun q e => by
  obtain ⟨x, r, -, h2⟩ := xA_s e
  exact hr x r q h2
theorem xall_V {st : List Value} {f : Value → List Value → Option xR} (hr : ∀ x r, xall P (f x r)) : xall P (xV st f) := fun q e => by
  obtain ⟨x, r, -, h2⟩ := xV_s e
  exact hr x r q h2
theorem xall_br {b : Bool} {pc tgt : Nat} {lv st : List Value} (h1 : P (.inl (tgt, lv, st, h))) (h2 : P (.inl (pc + 3, lv, st, h))) : xall P (xbr b pc tgt lv st h) := xall_cond (xall_go h1) (xall_go h2)
theorem xall_ald {c : Nat} {ok : FieldType → Bool} {i : Int32} {f : Int32 → Option xR} (hr : ∀ x, xall P (f x)) : xall P (xald h c ok i f) := xall_arr fun _ _ => xall_cond (xall_in (hr _)) xall_none
theorem xall_rf {v : Option Value} {r : Option xR} (hr : xall P r) : xall P (xrf v r) := fun q e => hr q (xrf_s e).2
theorem xall_rcv {a : Nat} {v : Option Value} {r : Option xR} (hr : xall P r) : xall P (xrcv h a v r) := fun q e => hr q (xrcv_s e).2
end XALL
/-- cells only come -/
def xPm (h : xH) (r : xR) : Prop := ∀ q : xF, r = .inl q → h.1 ≤ q.2.2.2.1
theorem xPm_same {h : xH} {pc : Nat} {lv st : List Value} : xPm h (.inl (pc, lv, st, h)) := fun _ e => by cases e; exact Nat.le_refl _
theorem xPm_eq {h h' : xH} {pc : Nat} {lv st : List Value} (e0 : h'.1 = h.1) : xPm h (.inl (pc, lv, st, h')) := fun _ e => by cases e; exact Nat.le_of_eq e0.symm
theorem xPm_new {h : xH} {pc : Nat} {lv st : List Value} : xPm h (.inl (pc, lv, st, xnew h)) := fun _ e => by cases e; exact Nat.le_succ _
theorem xPm_inr {h : xH} {z : Option Value ⊕ (Nat × List Value × List Value)} : xPm h (.inr z) := fun _ e => by cases e
theorem xPm_put {h h' : xH} {t : FieldType} {c b pc : Nat} {v : Value} {lv st : List Value} (hp : xput h t c b v = some h') : xPm h (.inl (pc, lv, st, h')) := xPm_eq (xput_s (B0 := 0) (E := fun _ => 0) hp).1
set_option maxHeartbeats 4000000 in
theorem xstep_mono {L : Nat} {xs : Nat → Int32} {d j pc : Nat} {q : xQ} {lv st : List Value} {h : xH} : xall (xPm h) (xstep L xs d j q pc lv st h) := by
  unfold xstep
  split
  all_goals (repeat' (first | exact xall_none | exact xall_go xPm_same | exact xall_go xPm_new | exact xall_go (xPm_put (by assumption)) | exact xall_go (xPm_eq rfl) | exact xall_some xPm_inr | exact xall_call xPm_inr | apply xall_x1 | apply xall_obj | (apply xall_arr; intro _ _) | apply xall_in | apply xall_cond | apply xall_rcv | apply xall_rf | (apply xall_I; intro _ _) | (apply xall_II; intro _ _ _) | (apply xall_A; intro _ _) | (apply xall_V; intro _ _) | (apply xall_ald; intro _) | exact xall_br xPm_same xPm_same | unfold xcopy | split))
/-- a return -/
def xrt (j : Nat) (q : xQ) (st : List Value) (v : Option Value) : Prop :=
  (q.1 = .return_ ∧ q.2.1 = 1 ∧ st = [] ∧ v = none ∧ xmv j = none) ∨ (∃ x, q.1 = .ireturn ∧ q.2.1 = 1 ∧ st = [.int x] ∧ v = some (.int x) ∧ (xmv j = some .int ∨ (xmv j = some .boolean ∧ (x = 0 ∨ x = 1)))) ∨ (∃ x, q.1 = .lreturn ∧ q.2.1 = 1 ∧ st = [.long x] ∧ v = some (.long x) ∧ xmv j = some .long) ∨ ∃ x C, q.1 = .areturn ∧ q.2.1 = 1 ∧ st = [.ref x] ∧ v = some (.ref x) ∧ xmv j = some (.object C)
/-- a call -/
def xct (h : xH) (q : xQ) (st : List Value) (z : Nat × List Value × List Value) : Prop :=
  q.2.1 = 3 ∧ z.1 = q.2.2.1 ∧ ((∃ idx c, q.1 = .invokespecial idx ∧ ¬ q.2.2.1 = 900 ∧ st[xnarg q.2.2.1]? = some (.ref c) ∧ xcall q.2.2.1 (xnarg q.2.2.1 + 1) st = some (.inr (.inr z))) ∨ (∃ idx c, q.1 = .invokevirtual idx ∧ ¬ 900 ≤ q.2.2.1 ∧ st[xnarg q.2.2.1]? = some (.ref c) ∧ c < h.1 ∧ xsh c = some (.inl (xmcl q.2.2.1)) ∧ xcall q.2.2.1 (xnarg q.2.2.1 + 1) st = some (.inr (.inr z))) ∨ ∃ idx, q.1 = .invokestatic idx ∧ ¬ 900 ≤ q.2.2.1 ∧ xcall q.2.2.1 (xnarg q.2.2.1) st = some (.inr (.inr z)))
def xPe (j : Nat) (h : xH) (q : xQ) (st : List Value) (r : xR) : Prop := (∀ v, r = .inr (.inl v) → xrt j q st v) ∧ ∀ z, r = .inr (.inr z) → xct h q st z
theorem xPe_go {j : Nat} {h : xH} {q : xQ} {st : List Value} {f : xF} : xPe j h q st (.inl f) := ⟨fun _ e => (by cases e), fun _ e => (by cases e)⟩
theorem xPe_ret {j : Nat} {h : xH} {q : xQ} {st : List Value} {v : Option Value} (hv : xrt j q st v) : xPe j h q st (.inr (.inl v)) := ⟨fun _ e => (by cases e; exact hv), fun _ e => (by cases e)⟩
theorem xPe_call {j : Nat} {h : xH} {q : xQ} {st : List Value} {z : Nat × List Value × List Value} (hv : xct h q st z) : xPe j h q st (.inr (.inr z)) := ⟨fun _ e => (by cases e), fun _ e => (by cases e; exact hv)⟩
set_option maxHeartbeats 8000000 in
theorem xstep_end {L : Nat} {xs : Nat → Int32} {d j pc : Nat} {q : xQ} {lv st : List Value} {h : xH} : xall (xPe j h q st) (xstep L xs d j q pc lv st h) := by
  obtain ⟨i, len, a, b, w⟩ := q
  cases i with
  | ireturn =>
    intro r hs
    obtain ⟨e0, h1⟩ := x1_s hs
    dsimp only at e0
    split at h1
    · split at h1
      · cases h1
        exact xPe_ret (Or.inr (Or.inl ⟨_, rfl, e0, rfl, rfl, Or.inl (by assumption)⟩))
      · rename_i x _ hm
        by_cases h0 : x = 0
        · rw [if_pos h0] at h1
          cases h1
          exact xPe_ret (Or.inr (Or.inl ⟨_, rfl, e0, rfl, rfl, Or.inr ⟨hm, Or.inl h0⟩⟩))
        · rw [if_neg h0] at h1
          obtain ⟨h2, h3⟩ := xif_s h1
          cases h3
          exact xPe_ret (Or.inr (Or.inl ⟨_, rfl, e0, rfl, rfl, Or.inr ⟨hm, Or.inr h2⟩⟩))
      · cases h1
    · cases h1
  | lreturn =>
    intro r hs
    obtain ⟨e0, h1⟩ := x1_s hs
    dsimp only at e0
    split at h1
    · split at h1
      · cases h1
        exact xPe_ret (Or.inr (Or.inr (Or.inl ⟨_, rfl, e0, rfl, rfl, by assumption⟩)))
      · cases h1
    · cases h1
  | areturn =>
    intro r hs
    obtain ⟨e0, h1⟩ := x1_s hs
    dsimp only at e0
    split at h1
    · split at h1
      · cases h1
        exact xPe_ret (Or.inr (Or.inr (Or.inr ⟨_, _, rfl, e0, rfl, rfl, by assumption⟩)))
      · cases h1
    · cases h1
  | return_ =>
    intro r hs
    obtain ⟨e0, h1⟩ := x1_s hs
    dsimp only at e0
    split at h1
    · split at h1
      · cases h1
        exact xPe_ret (Or.inl ⟨rfl, e0, rfl, rfl, by assumption⟩)
      · cases h1
    · cases h1
  | invokespecial idx =>
    intro r hs
    obtain ⟨e0, h1⟩ := x1_s hs
    dsimp only at e0
    by_cases ha : a = 900
    · rw [if_pos ha] at h1
      obtain ⟨-, h2⟩ := xifn_s h1
      obtain ⟨g, r0, -, h3⟩ := xA_s h2
      obtain ⟨-, h4⟩ := xif_s h3
      cases h4
      exact xPe_go
    · rw [if_neg ha] at h1
      obtain ⟨⟨g, g1⟩, h1⟩ := xrf_s h1
      obtain ⟨-, -, -, h2⟩ := xcall_s h1
      subst h2
      exact xPe_call ⟨e0, rfl, Or.inl ⟨idx, g, rfl, ha, g1, h1⟩⟩
  | invokevirtual idx =>
    intro r hs
    obtain ⟨e0, h1⟩ := x1_s hs
    dsimp only at e0
    by_cases ha : 900 ≤ a
    · rw [if_pos ha] at h1
      have hg : xall (xPe j h (.invokevirtual idx, len, a, b, w) st) (some r) := by
        rw [← h1]
        repeat' (first | exact xall_none | exact xall_go xPe_go | apply xall_in | split)
      exact hg r rfl
    · rw [if_neg ha] at h1
      obtain ⟨⟨g, g1, g2, g3⟩, h3⟩ := xrcv_s h1
      obtain ⟨-, -, -, h4⟩ := xcall_s h3
      subst h4
      exact xPe_call ⟨e0, rfl, Or.inr (Or.inl ⟨idx, g, rfl, ha, g1, g2, g3, h3⟩)⟩
  | invokestatic idx =>
    intro r hs
    obtain ⟨e0, h1⟩ := x1_s hs
    dsimp only at e0
    by_cases ha : 900 ≤ a
    · rw [if_pos ha] at h1
      have hg : xall (xPe j h (.invokestatic idx, len, a, b, w) st) (some r) := by
        rw [← h1]
        repeat' (first | exact xall_none | exact xall_go xPe_go | (apply xall_II; intro _ _ _) | unfold xcopy | (apply xall_arr; intro _ _) | apply xall_cond | split)
      exact hg r rfl
    · rw [if_neg ha] at h1
      obtain ⟨-, -, -, h2⟩ := xcall_s h1
      subst h2
      exact xPe_call ⟨e0, rfl, Or.inr (Or.inr ⟨idx, rfl, ha, h1⟩)⟩
  | _ =>
    unfold xstep
    dsimp only
    repeat' (first | exact xall_none | exact xall_go xPe_go | apply xall_x1 | apply xall_obj | (apply xall_arr; intro _ _) | apply xall_in | apply xall_cond | (apply xall_I; intro _ _) | (apply xall_II; intro _ _ _) | (apply xall_A; intro _ _) | (apply xall_V; intro _ _) | (apply xall_ald; intro _) | exact xall_br xPe_go xPe_go | split)
theorem xrun_succ (L : Nat) (xs : Nat → Int32) (n d j pc : Nat) (lv st : List Value) (h : xH) : xrun L xs (n + 1) d j pc lv st h = (match xins j pc with
    | none => none
    | some q => match xstep L xs d j q pc lv st h with
      | none => none
      | some (.inl (pc', lv', st', h')) => xrun L xs n d j pc' lv' st' h'
      | some (.inr (.inl v)) => some (v, h)
      | some (.inr (.inr (j', as, rest))) => match d with
        | 0 => none
        | d' + 1 => match xrun L xs n d' j' 0 (xent as (xml j')) [] h with
          | none => none
          | some (v, h') => xrun L xs n d j (pc + 3) lv (v.toList ++ rest) h') := rfl
/-- the ways in which a run of n + 1 goes well -/
theorem xrun_s {L : Nat} {xs : Nat → Int32} {n d j pc : Nat} {lv st : List Value} {h h' : xH} {v : Option Value} (hr : xrun L xs (n + 1) d j pc lv st h = some (v, h')) :
    ∃ q, xins j pc = some q ∧ ((∃ pc1 lv1 st1 h1, xstep L xs d j q pc lv st h = some (.inl (pc1, lv1, st1, h1)) ∧ xrun L xs n d j pc1 lv1 st1 h1 = some (v, h')) ∨ (xstep L xs d j q pc lv st h = some (.inr (.inl v)) ∧ h' = h) ∨ ∃ j1 as rest d1 v1 h1, xstep L xs d j q pc lv st h = some (.inr (.inr (j1, as, rest))) ∧ d = d1 + 1 ∧ xrun L xs n d1 j1 0 (xent as (xml j1)) [] h = some (v1, h1) ∧ xrun L xs n d j (pc + 3) lv (v1.toList ++ rest) h1 = some (v, h')) := by
  rw [xrun_succ] at hr
  cases hq : xins j pc with
  | none => rw [hq] at hr; cases hr
  | some q =>
    rw [hq] at hr
    dsimp only at hr
    refine ⟨q, rfl, ?_⟩
    cases hs : xstep L xs d j q pc lv st h with
    | none => rw [hs] at hr; cases hr
    | some r =>
      rw [hs] at hr
      rcases r with ⟨pc1, lv1, st1, h1⟩ | v1 | ⟨j1, as, rest⟩
      · exact Or.inl ⟨pc1, lv1, st1, h1, rfl, hr⟩
      · cases hr
        exact Or.inr (Or.inl ⟨rfl, rfl⟩)
      · dsimp only at hr
        cases d with
        | zero => cases hr
        | succ d1 =>
          dsimp only at hr
          cases hc : xrun L xs n d1 j1 0 (xent as (xml j1)) [] h with
          | none => rw [hc] at hr; cases hr
          | some z =>
            obtain ⟨v1, h1⟩ := z
            rw [hc] at hr
            exact Or.inr (Or.inr ⟨j1, as, rest, d1, v1, h1, rfl, rfl, hc, hr⟩)
theorem xrun_mono {L : Nat} {xs : Nat → Int32} : ∀ {n d j pc : Nat} {lv st : List Value} {h h' : xH} {v : Option Value}, xrun L xs n d j pc lv st h = some (v, h') → h.1 ≤ h'.1 := by
  intro n
  induction n with
  | zero => intro d j pc lv st h h' v hr; cases hr
  | succ n ih =>
    intro d j pc lv st h h' v hr
    obtain ⟨q, -, ⟨pc1, lv1, st1, h1, hs, h2⟩ | ⟨-, rfl⟩ | ⟨j1, as, rest, d1, v1, h1, -, -, h2, h3⟩⟩ := xrun_s hr
    · exact Nat.le_trans (xstep_mono _ hs _ rfl) (ih h2)
    · exact Nat.le_refl _
    · exact Nat.le_trans (ih h2) (ih h3)
/-- more fuel does no harm -/
theorem xrun_more {L : Nat} {xs : Nat → Int32} : ∀ {n : Nat} (k : Nat) {d j pc : Nat} {lv st : List Value} {h : xH} {r : Option Value × xH}, xrun L xs n d j pc lv st h = some r → xrun L xs (n + k) d j pc lv st h = some r := by
  intro n
  induction n with
  | zero => intro k d j pc lv st h r hr; cases hr
  | succ n ih =>
    intro k d j pc lv st h r hr
    obtain ⟨v, h'⟩ := r
    obtain ⟨q, hq, ⟨pc1, lv1, st1, h1, hs, h2⟩ | ⟨hs, rfl⟩ | ⟨j1, as, rest, d1, v1, h1, hs, rfl, h2, h3⟩⟩ := xrun_s hr
    · rw [show n + 1 + k = (n + k) + 1 by omega, xrun_succ, hq]
      dsimp only
      rw [hs]
      exact ih k h2
    · rw [show n + 1 + k = (n + k) + 1 by omega, xrun_succ, hq]
      dsimp only
      rw [hs]
    · rw [show n + 1 + k = (n + k) + 1 by omega, xrun_succ, hq]
      dsimp only
      rw [hs]
      dsimp only
      rw [ih k h2]
      exact ih k h3
/-- a method's locals at its start -/
theorem xent_flat (as : List Value) : (as.flatMap fun v => if v.category = 2 then [v, xmk] else [v]).length = (as.map fun v => v.category).sum := by
  induction as with
  | nil => rfl
  | cons v r ih =>
    rw [List.flatMap_cons, List.length_append, ih, List.map_cons, List.sum_cons]
    rcases lv_cat v with h | h <;> simp [h]
theorem xent_len {as : List Value} {n : Nat} (h : (as.map fun v => v.category).sum ≤ n) : (xent as n).length = n := by
  unfold xent
  rw [List.length_append, List.length_replicate, xent_flat]
  omega
theorem lg_len (vs : List Value) : (lg_sl vs).length = (vs.map fun v => v.category).sum := by
  induction vs with
  | nil => rfl
  | cons v r ih =>
    unfold lg_sl at ih ⊢
    rw [List.flatMap_cons, List.length_append, ih, List.map_cons, List.sum_cons]
    rcases lv_cat v with h | h <;> simp [h]
theorem xent_args {B0 : Nat} {E : Nat → Nat} : ∀ (as : List Value) (k i : Nat) (v : Value), (as.flatMap fun v => if v.category = 2 then [v, xmk] else [v])[i]? = some v → xiv v = true → (k + i, xtr B0 E v) ∈ lv_args k (as.map (xtr B0 E)) := by
  intro as
  induction as with
  | nil => intro k i v h; simp at h
  | cons a r ih =>
    intro k i v h hv
    rw [List.flatMap_cons] at h
    rw [List.map_cons, lv_args, xtr_cat]
    rcases lv_cat a with hc | hc
    · rw [if_neg (by omega)] at h ⊢
      cases i with
      | zero => simp at h; subst h; exact List.mem_cons_self
      | succ i =>
        have h2 := ih (k + 1) i v (by simpa using h) hv
        rw [show k + (i + 1) = k + 1 + i by omega]
        exact List.mem_cons_of_mem _ h2
    · rw [if_pos hc] at h ⊢
      match i, h with
      | 0, h => simp at h; subst h; exact List.mem_cons_self
      | 1, h => simp at h; subst h; cases hv
      | i + 2, h =>
        have h2 := ih (k + 2) i v (by simpa using h) hv
        rw [show k + (i + 2) = k + 2 + i by omega]
        exact List.mem_cons_of_mem _ h2
theorem xL_entry {B0 : Nat} {E : Nat → Nat} {as : List Value} {n : Nat} (h : (as.map fun v => v.category).sum ≤ n) : xL B0 E ((lg_sl (as.map (xtr B0 E)) ++ List.replicate (n - (lg_sl (as.map (xtr B0 E))).length) Slot.unset).toArray) n (xent as n) := by
  have hle : (lg_sl (as.map (xtr B0 E))).length ≤ n := by rw [lg_len, x_alike]; exact h
  obtain ⟨h1, h2, h3⟩ := lv_entry (as.map (xtr B0 E)) (n := n) hle
  refine ⟨xent_len h, h1, h2, fun q hq => h3 q ?_⟩
  obtain ⟨v, g1, g2, g3⟩ := xas_of hq
  obtain ⟨i, z⟩ := q
  dsimp only at g1 g3
  subst g3
  unfold xent at g1
  by_cases hi : i < (as.flatMap fun v => if v.category = 2 then [v, xmk] else [v]).length
  · rw [List.getElem?_append_left hi] at g1
    have := xent_args (B0 := B0) (E := E) as 0 i v g1 g2
    rwa [Nat.zero_add] at this
  · rw [List.getElem?_append_right (by omega)] at g1
    have := List.mem_of_getElem? g1
    rw [List.mem_replicate] at this
    rw [this.2] at g2
    cases g2
