theorem xrcv_s {α : Type} {h : xH} {a : Nat} {v : Option Value} {r : Option α} {z : α} (hh : xrcv h a v r = some z) : (∃ q, v = some (.ref q) ∧ q < h.1 ∧ xsh q = some (.inl a)) ∧ r = some z := by
  unfold xrcv at hh
  split at hh
  · obtain ⟨h1, h2, h3⟩ := xobj_s hh
    exact ⟨⟨_, rfl, h1, h2⟩, h3⟩
  · cases hh
theorem xrf_s {α : Type} {v : Option Value} {r : Option α} {z : α} (hh : xrf v r = some z) : (∃ q, v = some (.ref q)) ∧ r = some z := by
  unfold xrf at hh
  split at hh
  · exact ⟨⟨_, rfl⟩, hh⟩
  · cases hh
theorem xcall_s {j na : Nat} {st : List Value} {r : xR} (hh : xcall j na st = some r) : ((st.drop na).map fun v => v.category).sum ≤ 8 ∧ na ≤ st.length ∧ ((st.take na).map fun v => v.category).sum ≤ xml j ∧ r = .inr (.inr (j, (st.take na).reverse, st.drop na)) := by
  obtain ⟨h1, h2⟩ := xif_s hh
  obtain ⟨h3, h4⟩ := xif_s h2
  obtain ⟨h5, h6⟩ := xif_s h4
  exact ⟨h1, h3, h5, (Option.some.inj h6).symm⟩
def xshok (r : Nat ⊕ (FieldType × Nat)) : Bool := match r with
  | .inl ci => decide (ci < 13)
  | .inr (t, _) => xisI t || xisJ t || xisB t || xisZ t
theorem xsh_all : ∀ row ∈ xsr, ∀ r ∈ row, xshok r = true := by decide +kernel
theorem xsh_ok {q : Nat} {r : Nat ⊕ (FieldType × Nat)} (h : xsh q = some r) : xshok r = true := by
  unfold xsh at h
  split at h
  · rename_i row hr
    exact xsh_all row (List.mem_of_getElem? hr) r (List.mem_of_getElem? h)
  · cases h
theorem x_shty {q n : Nat} {t : FieldType} (h : xsh q = some (.inr (t, n))) : t = .int ∨ t = .long ∨ t = .byte ∨ t = .boolean := by
  have h1 := xsh_ok h
  simp only [xshok, Bool.or_eq_true] at h1
  rcases h1 with ((h1 | h1) | h1) | h1
  · exact Or.inl (xisI_s h1)
  · exact Or.inr (Or.inl (xisJ_s h1))
  · exact Or.inr (Or.inr (Or.inl (xisB_s h1)))
  · exact Or.inr (Or.inr (Or.inr (xisZ_s h1)))
theorem x_arrof {D : va_G} {cA : FieldType → ClassId} {s : State} (hK : va_K D xcl (xtys cA) s) {t : FieldType} (ht : t = .int ∨ t = .long ∨ t = .byte ∨ t = .boolean) : ArrOfT s (cA t) t := by
  rcases ht with rfl | rfl | rfl | rfl
  · exact (hK.2 0 _ rfl).1
  · exact (hK.2 1 _ rfl).1
  · exact (hK.2 2 _ rfl).1
  · exact (hK.2 3 _ rfl).1
theorem x_lkpos (pc df x : Int) : ∀ (ps : List (Int × Int)), 0 ≤ pc + df → (∀ o ∈ ps, 0 ≤ pc + o.2) → 0 ≤ pc + Op.lookupswitch.offset ps df x
  | [], h, _ => h
  | (a, o) :: r, h, h2 => by
    rw [Op.lookupswitch.offset_cons]
    split
    · exact h2 (a, o) List.mem_cons_self
    · exact x_lkpos pc df x r h (fun q hq => h2 q (List.mem_cons_of_mem _ hq))
theorem xok_s {j pc : Nat} {q : xQ} (h : xins j pc = some q) : decode (xmc j) pc = .ok (q.1, q.2.1) ∧ xlk j pc q = true := by
  have h1 := xins_ok h
  unfold xok at h1
  rw [Bool.and_eq_true, decide_eq_true_eq] at h1
  exact h1
theorem xput_opt {α : Type} {o : Option xH} {f : xH → Option α} {v : α} (h : (match o with | some h' => f h' | none => none) = some v) : ∃ h', o = some h' ∧ f h' = some v := by
  cases o with
  | none => cases h
  | some h' => exact ⟨h', rfl, h⟩
theorem xbr_s {b : Bool} {pc tgt : Nat} {lv st : List Value} {h : xH} {r : xR} (hh : xbr b pc tgt lv st h = some r) : (b = true ∧ r = .inl (tgt, lv, st, h)) ∨ (b = false ∧ r = .inl (pc + 3, lv, st, h)) := by
  cases b with
  | true => cases hh; exact Or.inl ⟨rfl, rfl⟩
  | false => cases hh; exact Or.inr ⟨rfl, rfl⟩
theorem x_alike {B0 : Nat} {E : Nat → Nat} {st : List Value} : ((st.map (xtr B0 E)).map fun v => v.category).sum = (st.map fun v => v.category).sum := by
  rw [List.map_map]
  congr 1
  apply List.map_congr_left
  intro v _
  exact xtr_cat _ _ _
set_option maxHeartbeats 8000000 in
/-- one step that goes on in the same method -/
theorem x_step {p : Program} {l : Launch} {e : Env} {R : Room} {s : State} {m : MethodId} {args : Array Value} {below : List Frame} {meth : Method} {c : Code} {H : Heap} {locs : List Loc} {Q : State → Prop} {pc : Nat} {ls : Array Slot} {D : va_G} {cA : FieldType → ClassId} {B0 : Nat} {E : Nat → Nat} {L : Nat} {xs : Nat → Int32} {j d n0 pc' : Nat} {h h' : xH} {lv st lv' st' : List Value} {q : xQ}
    (C : xCx p s m args meth c D cA B0 E L xs j) (hq : xins j pc = some q) (hs : xstep L xs d j q pc lv st h = some (.inl (pc', lv', st', h'))) (hd : d ≤ R.frames ∧ 64 * d ≤ R.locals) (hrep : xRep D cA B0 E h H) (hl : xL B0 E ls (xml j) lv) (hS : va_S (fun q => B0 ≤ q) s.heap H locs) (hn : n0 ≤ h.1) (hr : h'.1 - n0 ≤ R.cells ∧ xslots h'.1 - xslots n0 ≤ R.slots) (hmono : xslots n0 ≤ xslots h.1)
    (kk : ∀ H' locs' ls', xRep D cA B0 E h' H' → va_S (fun q => B0 ≤ q) s.heap H' locs' → xL B0 E ls' (xml j) lv' → W p l e R s m args below meth c H' locs' (h'.1 - n0) (xslots h'.1 - xslots n0) Q (F0 m pc' ls' (st'.map (xtr B0 E)))) :
    W p l e R s m args below meth c H locs (h.1 - n0) (xslots h.1 - xslots n0) Q (F0 m pc ls (st.map (xtr B0 E))) := by
  have C0 := C
  obtain ⟨hx, hb, hml, hown, hin, hts, hK, hN, hE, hX, hB, hO⟩ := C
  obtain ⟨hdg, hlk⟩ := xok_s hq
  obtain ⟨i, len, a, b, w⟩ := q
  dsimp only at hdg
  have pure : (xpur i len lv st = none → False) → (∀ r, xpur i len lv st = some r → xgo (pc + len) r.1 r.2 h = some (.inl (pc', lv', st', h'))) → W p l e R s m args below meth c H locs (h.1 - n0) (xslots h.1 - xslots n0) Q (F0 m pc ls (st.map (xtr B0 E))) := by
    intro hn1 hs1
    cases hp : xpur i len lv st with
    | none => exact (hn1 hp).elim
    | some r =>
      have h2 := hs1 r hp
      cases h2
      exact x_pur hx hb hdg hp hl (fun ls' hl' => kk H locs ls' hrep hS hl')
  have fall : (match xpur i len lv st with | some r => xgo (pc + len) r.1 r.2 h | none => none) = some (.inl (pc', lv', st', h')) → W p l e R s m args below meth c H locs (h.1 - n0) (xslots h.1 - xslots n0) Q (F0 m pc ls (st.map (xtr B0 E))) := by
    intro hf
    refine pure (fun z => ?_) (fun r z => ?_)
    · rw [z] at hf; cases hf
    · rw [z] at hf; exact hf
  cases i with
  | getfield idx =>
    obtain ⟨e0, h1⟩ := x1_s hs
    obtain ⟨g, r, e1, h2⟩ := xA_s h1
    obtain ⟨hc, hsh, h3⟩ := xobj_s h2
    cases h3
    dsimp only at e0
    subst e0
    subst e1
    simp only [xlk, Bool.and_eq_true, decide_eq_true_eq] at hlk
    exact x_fget C0 hlk.1.1 hlk.1.2 hlk.2 hrep hc hsh hdg (kk H locs ls hrep hS hl)
  | putfield idx =>
    obtain ⟨e0, h1⟩ := x1_s hs
    obtain ⟨v, r0, e1, h2⟩ := xV_s h1
    obtain ⟨g, r, e2, h3⟩ := xA_s h2
    obtain ⟨hc, hsh, h4⟩ := xobj_s h3
    obtain ⟨h5, hput, h6⟩ := xput_opt h4
    cases h6
    dsimp only at e0
    subst e0
    subst e2
    subst e1
    simp only [xlk, Bool.and_eq_true, decide_eq_true_eq, Bool.or_eq_true, Bool.not_eq_true'] at hlk
    have hn1 := (xput_s (B0 := B0) (E := E) hput).1
    refine x_fput C0 hlk.1.1.1 hlk.1.1.2 hlk.1.2 hlk.2 hrep hS hc hsh hput hdg (fun H' locs' hr' hS' => ?_)
    have k2 := kk H' locs' ls hr' hS' hl
    rw [hn1] at k2
    exact k2
  | new idx =>
    obtain ⟨e0, h1⟩ := x1_s hs
    split at h1
    · rename_i ci hsh
      obtain ⟨hbq, h2⟩ := xcond_s h1
      have e1 := Nat.eq_of_beq_eq_true hbq
      cases h2
      dsimp only at e0 e1
      subst e0
      subst e1
      simp only [xlk, Bool.and_eq_true, decide_eq_true_eq] at hlk
      have z1 : (xnew h).1 = h.1 + 1 := rfl
      have z2 : xslots (h.1 + 1) = xslots h.1 + xnf ci := by show xslots h.1 + xsz (xsh h.1) = _; rw [hsh]; rfl
      rw [z1, z2] at hr
      refine x_new C0 hlk.1 hlk.2 hrep hS hsh (by omega) (by omega) hdg (fun H1 hr1 hS1 => ?_)
      have k2 := kk H1 locs ls hr1 hS1 hl
      rw [z1, z2] at k2
      refine W.widen (k := h.1 + 1 - n0) (n := xslots h.1 + xnf ci - xslots n0) (by omega) (by omega) k2
    · cases h1
  | newarray t =>
    obtain ⟨e0, h1⟩ := x1_s hs
    obtain ⟨n, r, e1, h2⟩ := xI_s h1
    split at h2
    · rename_i t' N hsh
      obtain ⟨ht, h3⟩ := xif_s h2
      obtain ⟨hneg, h4⟩ := xifn_s h3
      obtain ⟨hNN, h5⟩ := xif_s h4
      obtain ⟨hbig, h6⟩ := xif_s h5
      cases h6
      dsimp only at e0
      subst e0
      subst e1
      have z1 : (xnew h).1 = h.1 + 1 := rfl
      have z2 : xslots (h.1 + 1) = xslots h.1 + N := by show xslots h.1 + xsz (xsh h.1) = _; rw [hsh]; rfl
      rw [z1, z2] at hr
      refine x_newa C0 ht hrep hS hsh hneg hNN hbig (by omega) (by omega) hdg (fun H1 hr1 hS1 => ?_)
      have k2 := kk H1 locs ls hr1 hS1 hl
      rw [z1, z2] at k2
      refine W.widen (k := h.1 + 1 - n0) (n := xslots h.1 + N - xslots n0) (by omega) (by omega) k2
    · cases h2
  | arraylength =>
    obtain ⟨e0, h1⟩ := x1_s hs
    dsimp only at e0
    subst e0
    split at h1
    · obtain ⟨t, n, hc, hsh, h2⟩ := xarr_s h1
      cases h2
      cases ht : xisJ t with
      | false => exact W.alen (n := Int32.ofNat n) hx hb (x_cellI hrep hc hsh ht) (x_arrof hK (x_shty hsh) _ _) (by rw [vp_cell_i, arrV_size] <;> rfl) rfl rfl hdg (kk H locs ls hrep hS hl)
      | true =>
        have e2 := xisJ_s ht
        subst e2
        exact W.alen (n := Int32.ofNat n) hx hb (x_cellL hrep hc hsh) (x_arrof hK (x_shty hsh) _ _) (by rw [vp_cell_l, arrV_size] <;> rfl) rfl rfl hdg (kk H locs ls hrep hS hl)
    · obtain ⟨-, h1⟩ := xif_s h1
      cases h1
      exact va_slen hx hb hX (Nat.lt_of_lt_of_le hE hB) (Nat.not_le.mpr hE) hS hdg (kk H locs ls hrep hS hl)
    · cases h1
      exact va_tlen hx hb hO.2.1 hS (v := 16) (by decide) hdg (kk H locs ls hrep hS hl)
    · cases h1
  | iaload =>
    obtain ⟨e0, h1⟩ := x1_s hs
    dsimp only at e0
    subst e0
    split at h1
    · obtain ⟨t, n, hc, hsh, h2⟩ := xarr_s h1
      obtain ⟨ht, h3⟩ := xcond_s h2
      obtain ⟨hi, h4⟩ := xin_s h3
      cases h4
      have e2 := xisI_s ht
      subst e2
      rename_i i0 q0 r0
      have hlt : i0.toNatClampNeg < n := Nat.not_le.mp fun z => hi (Or.inr z)
      exact W.iald (v := .int (h.2.1 q0 i0.toNatClampNeg)) hx hb (x_cellI hrep hc hsh rfl) (x_arrof hK (x_shty hsh) _ _) (fun z => by cases z) (by show ¬ (_ ∨ (arrV _ _ _).slots.size ≤ _); rw [arrV_size]; exact hi) (by show (arrV _ _ _).slots[_]? = _; rw [arrV_read _ _ hlt]) rfl rfl hdg (kk H locs ls hrep hS hl)
    · obtain ⟨-, h1⟩ := xif_s h1
      obtain ⟨hi, h4⟩ := xin_s h1
      cases h4
      exact va_sld hx hb hX (Nat.lt_of_lt_of_le hE hB) (Nat.not_le.mpr hE) hS hi hdg (kk H locs ls hrep hS hl)
    · obtain ⟨hi, h4⟩ := xin_s h1
      cases h4
      exact va_ti hx hb hO.2.1 hS hi rfl hdg (kk H locs ls hrep hS hl)
    · cases h1
  | baload =>
    obtain ⟨e0, h1⟩ := x1_s hs
    dsimp only at e0
    subst e0
    split at h1
    · obtain ⟨t, n, hc, hsh, h2⟩ := xarr_s h1
      obtain ⟨ht, h3⟩ := xcond_s h2
      obtain ⟨hi, h4⟩ := xin_s h3
      cases h4
      rename_i i0 q0 r0
      have hlt : i0.toNatClampNeg < n := Nat.not_le.mp fun z => hi (Or.inr z)
      rcases Bool.or_eq_true _ _ ▸ ht with ht | ht
      · have e2 := xisB_s ht
        subst e2
        exact W.bald (v := .int (h.2.1 q0 i0.toNatClampNeg)) hx hb (x_cellI hrep hc hsh rfl) (x_arrof hK (x_shty hsh) _ _) (fun z => by cases z) (by show ¬ (_ ∨ (arrV _ _ _).slots.size ≤ _); rw [arrV_size]; exact hi) (by show (arrV _ _ _).slots[_]? = _; rw [arrV_read _ _ hlt]) rfl rfl hdg (kk H locs ls hrep hS hl)
      · have e2 := xisZ_s ht
        subst e2
        exact W.zald (v := .int (h.2.1 q0 i0.toNatClampNeg)) hx hb (x_cellI hrep hc hsh rfl) (x_arrof hK (x_shty hsh) _ _) (fun z => by cases z) (by show ¬ (_ ∨ (arrV _ _ _).slots.size ≤ _); rw [arrV_size]; exact hi) (by show (arrV _ _ _).slots[_]? = _; rw [arrV_read _ _ hlt]) rfl rfl hdg (kk H locs ls hrep hS hl)
    · cases h1
  | laload =>
    obtain ⟨e0, h1⟩ := x1_s hs
    dsimp only at e0
    subst e0
    split at h1
    · obtain ⟨t, n, hc, hsh, h2⟩ := xarr_s h1
      obtain ⟨ht, h3⟩ := xcond_s h2
      obtain ⟨hi, h4⟩ := xin_s h3
      cases h4
      have e2 := xisJ_s ht
      subst e2
      rename_i i0 q0 r0
      have hlt : i0.toNatClampNeg < n := Nat.not_le.mp fun z => hi (Or.inr z)
      exact W.lald (v := .long (h.2.2.1 q0 i0.toNatClampNeg)) hx hb (x_cellL hrep hc hsh) (x_arrof hK (x_shty hsh) _ _) (fun z => by cases z) (by show ¬ (_ ∨ (arrV _ _ _).slots.size ≤ _); rw [arrV_size]; exact hi) (by show (arrV _ _ _).slots[_]? = _; rw [arrV_read _ _ hlt]) rfl rfl hdg (kk H locs ls hrep hS hl)
    · cases h1
  | iastore =>
    obtain ⟨e0, h1⟩ := x1_s hs
    dsimp only at e0
    subst e0
    split at h1
    · obtain ⟨t, n, hc, hsh, h2⟩ := xarr_s h1
      obtain ⟨ht, h3⟩ := xcond_s h2
      obtain ⟨hi, h4⟩ := xin_s h3
      cases h4
      have e2 := xisI_s ht
      subst e2
      refine W.iast hx hb (x_cellI hrep hc hsh rfl) (x_arrof hK (x_shty hsh) _ _) (fun z => by cases z) (by show ¬ (_ ∨ (arrV _ _ _).slots.size ≤ _); rw [arrV_size]; exact hi) rfl rfl hdg fun H1 e1 z oq => ?_
      refine kk H1 _ ls (x_ast hrep hc hsh rfl ?_ z oq) (hS.put z oq (Nat.le_add_right _ _)) hl
      rw [e1, vp_cell_i, vp_cell_i, arrV_store, x_upd_i]
    · cases h1
  | bastore =>
    obtain ⟨e0, h1⟩ := x1_s hs
    dsimp only at e0
    subst e0
    split at h1
    · obtain ⟨t, n, hc, hsh, h2⟩ := xarr_s h1
      cases hbt : xisB t with
      | true =>
        rw [hbt] at h2
        obtain ⟨hi, h4⟩ := xin_s h2
        cases h4
        have e2 := xisB_s hbt
        subst e2
        refine W.bast hx hb (x_cellI hrep hc hsh rfl) (x_arrof hK (x_shty hsh) _ _) (fun z => by cases z) (by show ¬ (_ ∨ (arrV _ _ _).slots.size ≤ _); rw [arrV_size]; exact hi) rfl rfl hdg fun H1 e1 z oq => ?_
        refine kk H1 _ ls (x_ast hrep hc hsh rfl ?_ z oq) (hS.put z oq (Nat.le_add_right _ _)) hl
        rw [e1, vp_cell_i, vp_cell_i, ← x_upd_i, ← arrV_store]
        rfl
      | false =>
        rw [hbt] at h2
        obtain ⟨ht, h3⟩ := xcond_s h2
        obtain ⟨hi, h4⟩ := xin_s h3
        cases h4
        have e2 := xisZ_s ht
        subst e2
        refine W.zast hx hb (x_cellI hrep hc hsh rfl) (x_arrof hK (x_shty hsh) _ _) (fun z => by cases z) (by show ¬ (_ ∨ (arrV _ _ _).slots.size ≤ _); rw [arrV_size]; exact hi) rfl rfl hdg fun H1 e1 z oq => ?_
        refine kk H1 _ ls (x_ast hrep hc hsh rfl ?_ z oq) (hS.put z oq (Nat.le_add_right _ _)) hl
        rw [e1, vp_cell_i, vp_cell_i, ← x_upd_i, ← arrV_store]
        rfl
    · cases h1
  | lastore =>
    obtain ⟨e0, h1⟩ := x1_s hs
    dsimp only at e0
    subst e0
    split at h1
    · obtain ⟨t, n, hc, hsh, h2⟩ := xarr_s h1
      obtain ⟨ht, h3⟩ := xcond_s h2
      obtain ⟨hi, h4⟩ := xin_s h3
      cases h4
      have e2 := xisJ_s ht
      subst e2
      refine W.last hx hb (x_cellL hrep hc hsh) (x_arrof hK (x_shty hsh) _ _) (fun z => by cases z) (by show ¬ (_ ∨ (arrV _ _ _).slots.size ≤ _); rw [arrV_size]; exact hi) rfl rfl hdg fun H1 e1 z oq => ?_
      refine kk H1 _ ls (x_astL hrep hc hsh ?_ z oq) (hS.put z oq (Nat.le_add_right _ _)) hl
      rw [e1, vp_cell_l, vp_cell_l, arrV_store, x_upd_l]
    · cases h1
  | goto off =>
    obtain ⟨e0, h1⟩ := x1_s hs
    dsimp only at e0
    subst e0
    cases h1
    simp only [xlk, decide_eq_true_eq] at hlk
    exact lv_goto hx hb hdg hlk (kk H locs ls hrep hS hl)
  | getstatic idx =>
    obtain ⟨e0, h1⟩ := x1_s hs
    dsimp only at e0
    subst e0
    cases h1
    simp only [xlk, decide_eq_true_eq] at hlk
    exact va_gets hx hb hO.1 hS hown (xword hts hlk rfl) (fun _ h9 => h9) hdg (kk H locs ls hrep hS hl)
  | ldc idx =>
    obtain ⟨e0, h1⟩ := x1_s hs
    dsimp only at e0
    subst e0
    cases hz : Nat.beq b 0 with
    | true =>
      dsimp only at h1
      rw [hz] at h1
      cases h1
      have e1 := Nat.eq_of_beq_eq_true hz
      subst e1
      simp only [xlk, if_true, decide_eq_true_eq] at hlk
      exact lv_ldc hx hb hown (xword hts hlk rfl) hdg (kk H locs ls hrep hS hl)
    | false =>
      dsimp only at h1
      rw [hz] at h1
      cases h1
      have e1 : ¬ b = 0 := fun z => by rw [z] at hz; cases hz
      simp only [xlk, if_neg e1, Bool.and_eq_true, decide_eq_true_eq] at hlk
      exact va_ldcS hx hb hown (hO.2.2.2.2.1 _ _ _ _ hlk.1 hlk.2) hdg (kk H locs ls hrep hS hl)
  | ldc_w idx =>
    obtain ⟨e0, h1⟩ := x1_s hs
    obtain ⟨hz, h2⟩ := xcond_s h1
    dsimp only at e0
    subst e0
    cases h2
    have e1 := Nat.eq_of_beq_eq_true hz
    dsimp only at e1
    subst e1
    simp only [xlk, if_true, decide_eq_true_eq] at hlk
    exact lv_ldcw hx hb hown (xword hts hlk rfl) hdg (kk H locs ls hrep hS hl)
  | ldc2_w idx =>
    obtain ⟨e0, h1⟩ := x1_s hs
    dsimp only at e0
    subst e0
    cases h1
    simp only [xlk, decide_eq_true_eq] at hlk
    exact lv_ldc2 hx hb hown (xword hts hlk rfl) hdg (kk H locs ls hrep hS hl)
  | ifCond cd off =>
    obtain ⟨e0, h1⟩ := x1_s hs
    obtain ⟨x, r, e1, h2⟩ := xI_s h1
    dsimp only at e0
    subst e0
    subst e1
    simp only [xlk, decide_eq_true_eq] at hlk
    rcases xbr_s h2 with ⟨hc, hr2⟩ | ⟨hc, hr2⟩ <;> cases hr2
    · cases cd with
      | eq =>
        have z : x = 0 := of_decide_eq_true hc
        exact lv_if_eq hx hb hdg hlk (fun _ => kk H locs ls hrep hS hl) (fun z2 => absurd z z2)
      | ne =>
        have z : ¬ x = 0 := by simpa [xcnd] using hc
        exact lv_if_ne hx hb hdg hlk (fun _ => kk H locs ls hrep hS hl) (fun z2 => absurd z2 z)
      | lt =>
        have z : x < 0 := of_decide_eq_true hc
        exact lv_if_lt hx hb hdg hlk (fun _ => kk H locs ls hrep hS hl) (fun z2 => absurd z z2)
      | ge =>
        have z : 0 ≤ x := of_decide_eq_true hc
        exact lv_if_ge hx hb hdg hlk (fun _ => kk H locs ls hrep hS hl) (fun z2 => absurd z z2)
      | gt =>
        have z : 0 < x := of_decide_eq_true hc
        exact lv_if_gt hx hb hdg hlk (fun _ => kk H locs ls hrep hS hl) (fun z2 => absurd z z2)
      | le =>
        have z : x ≤ 0 := of_decide_eq_true hc
        exact lv_if_le hx hb hdg hlk (fun _ => kk H locs ls hrep hS hl) (fun z2 => absurd z z2)
    · cases cd with
      | eq =>
        have z : ¬ (x = 0) := of_decide_eq_false hc
        exact lv_if_eq hx hb hdg hlk (fun z2 => absurd z2 z) (fun _ => kk H locs ls hrep hS hl)
      | ne =>
        have z : x = 0 := by simpa [xcnd] using hc
        exact lv_if_ne hx hb hdg hlk (fun z2 => absurd z z2) (fun _ => kk H locs ls hrep hS hl)
      | lt =>
        have z : ¬ (x < 0) := of_decide_eq_false hc
        exact lv_if_lt hx hb hdg hlk (fun z2 => absurd z2 z) (fun _ => kk H locs ls hrep hS hl)
      | ge =>
        have z : ¬ (0 ≤ x) := of_decide_eq_false hc
        exact lv_if_ge hx hb hdg hlk (fun z2 => absurd z2 z) (fun _ => kk H locs ls hrep hS hl)
      | gt =>
        have z : ¬ (0 < x) := of_decide_eq_false hc
        exact lv_if_gt hx hb hdg hlk (fun z2 => absurd z2 z) (fun _ => kk H locs ls hrep hS hl)
      | le =>
        have z : ¬ (x ≤ 0) := of_decide_eq_false hc
        exact lv_if_le hx hb hdg hlk (fun z2 => absurd z2 z) (fun _ => kk H locs ls hrep hS hl)
  | if_icmp cd off =>
    obtain ⟨e0, h1⟩ := x1_s hs
    obtain ⟨x, y, r, e1, h2⟩ := xII_s h1
    dsimp only at e0
    subst e0
    subst e1
    simp only [xlk, decide_eq_true_eq] at hlk
    rcases xbr_s h2 with ⟨hc, hr2⟩ | ⟨hc, hr2⟩ <;> cases hr2
    · cases cd with
      | eq =>
        have z : x = y := of_decide_eq_true hc
        exact lv_icmp_eq hx hb hdg hlk (fun _ => kk H locs ls hrep hS hl) (fun z2 => absurd z z2)
      | ne =>
        have z : ¬ x = y := by simpa [xcnd] using hc
        exact lv_icmp_ne hx hb hdg hlk (fun _ => kk H locs ls hrep hS hl) (fun z2 => absurd z2 z)
      | lt =>
        have z : x < y := of_decide_eq_true hc
        exact lv_icmp_lt hx hb hdg hlk (fun _ => kk H locs ls hrep hS hl) (fun z2 => absurd z z2)
      | ge =>
        have z : y ≤ x := of_decide_eq_true hc
        exact lv_icmp_ge hx hb hdg hlk (fun _ => kk H locs ls hrep hS hl) (fun z2 => absurd z z2)
      | gt =>
        have z : y < x := of_decide_eq_true hc
        exact lv_icmp_gt hx hb hdg hlk (fun _ => kk H locs ls hrep hS hl) (fun z2 => absurd z z2)
      | le =>
        have z : x ≤ y := of_decide_eq_true hc
        exact lv_icmp_le hx hb hdg hlk (fun _ => kk H locs ls hrep hS hl) (fun z2 => absurd z z2)
    · cases cd with
      | eq =>
        have z : ¬ (x = y) := of_decide_eq_false hc
        exact lv_icmp_eq hx hb hdg hlk (fun z2 => absurd z2 z) (fun _ => kk H locs ls hrep hS hl)
      | ne =>
        have z : x = y := by simpa [xcnd] using hc
        exact lv_icmp_ne hx hb hdg hlk (fun z2 => absurd z z2) (fun _ => kk H locs ls hrep hS hl)
      | lt =>
        have z : ¬ (x < y) := of_decide_eq_false hc
        exact lv_icmp_lt hx hb hdg hlk (fun z2 => absurd z2 z) (fun _ => kk H locs ls hrep hS hl)
      | ge =>
        have z : ¬ (y ≤ x) := of_decide_eq_false hc
        exact lv_icmp_ge hx hb hdg hlk (fun z2 => absurd z2 z) (fun _ => kk H locs ls hrep hS hl)
      | gt =>
        have z : ¬ (y < x) := of_decide_eq_false hc
        exact lv_icmp_gt hx hb hdg hlk (fun z2 => absurd z2 z) (fun _ => kk H locs ls hrep hS hl)
      | le =>
        have z : ¬ (x ≤ y) := of_decide_eq_false hc
        exact lv_icmp_le hx hb hdg hlk (fun z2 => absurd z2 z) (fun _ => kk H locs ls hrep hS hl)
  | tableswitch df lo hi offs =>
    obtain ⟨x, r, e1, h1⟩ := xI_s hs
    subst e1
    simp only [xlk, Bool.and_eq_true, decide_eq_true_eq] at hlk
    by_cases hout : x.toInt < lo ∨ hi < x.toInt
    · rw [if_pos hout] at h1
      cases h1
      exact lv_tableOut hx hb hdg hout (by rw [Int.toNat_of_nonneg hlk.1]) (kk H locs ls hrep hS hl)
    · rw [if_neg hout] at h1
      split at h1
      · rename_i o ho
        cases h1
        have hmem : o ∈ offs.toList := Array.mem_toList_iff.mpr (Array.mem_of_getElem? ho)
        have hpos := List.all_eq_true.mp hlk.2 o hmem
        rw [decide_eq_true_eq] at hpos
        exact lv_tableIn hx hb hdg (fun z => hout (Or.inl z)) (fun z => hout (Or.inr z)) ho (by rw [Int.toNat_of_nonneg hpos]) (kk H locs ls hrep hS hl)
      · cases h1
  | lookupswitch df ps =>
    obtain ⟨x, r, e1, h1⟩ := xI_s hs
    subst e1
    cases h1
    simp only [xlk, Bool.and_eq_true, decide_eq_true_eq] at hlk
    have hpos : 0 ≤ (pc : Int) + Op.lookupswitch.offset ps.toList df x.toInt := x_lkpos (pc : Int) df x.toInt ps.toList hlk.1.1 (fun o ho => by have := List.all_eq_true.mp hlk.1.2 o ho; rwa [decide_eq_true_eq] at this)
    exact lv_lookup hx hb hdg hlk.2 rfl (by rw [Int.toNat_of_nonneg hpos]) (kk H locs ls hrep hS hl)
  | invokespecial idx =>
    obtain ⟨e0, h1⟩ := x1_s hs
    dsimp only at e0
    subst e0
    by_cases ha : a = 900
    · rw [if_pos ha] at h1
      obtain ⟨hd0, h2⟩ := xifn_s h1
      obtain ⟨g, r, e1, h3⟩ := xA_s h2
      obtain ⟨hcat, h4⟩ := xif_s h3
      cases h4
      subst e1
      simp only [xlk, if_pos ha, decide_eq_true_eq] at hlk
      refine W.objInit hx hb hown (xword hts hlk rfl) (xword hts xpOI rfl) (xword hts xpOC rfl) rfl (by rw [hml]; exact hl.2.1) rfl hdg (by omega) ?_ (kk H locs ls hrep hS hl)
      show 2 * 0 + (List.map (fun v => v.category) (List.map (xtr B0 E) _)).sum + 12 ≤ R.locals
      rw [x_alike]
      omega
    · rw [if_neg ha] at h1
      obtain ⟨-, h1⟩ := xrf_s h1
      obtain ⟨-, -, -, h2⟩ := xcall_s h1
      cases h2
  | invokevirtual idx =>
    obtain ⟨e0, h1⟩ := x1_s hs
    dsimp only at e0
    subst e0
    by_cases ha : 900 ≤ a
    · rw [if_pos ha] at h1
      obtain ⟨hd4, h2⟩ := xifn_s h1
      have fix : CallFix p m c (xmc j) (xml j) s args xgw (xmy j).cls := ⟨hx, hb, hml, hown, hts⟩
      have hO2 := hO.kept hS.2.1
      obtain ⟨adV, hStr⟩ := hO.2.2.2.1
      by_cases h902 : a = 902
      · rw [if_pos h902] at h2
        simp only [xlk, if_pos ha, if_pos h902, decide_eq_true_eq] at hlk
        split at h2
        · rename_i k r
          obtain ⟨hk, h3⟩ := xif_s h2
          obtain ⟨hcat, h4⟩ := xif_s h3
          cases h4
          exact s_after (v := some (.int (Int32.ofNat (xslen k)))) (va_runV (C := "java/lang/String") (As := []) (b := E (k + 2)) (rest := r.map (xtr B0 E)) fix (s_len (l := l) (B0 := B0) (E := E) hk) ⟨callB_of (bytes := s_c_len) (maxL := 1) (ret := some .int) (ws' := xgw) 0 hts (s_good s_w_len) rfl rfl rfl (xword hts s_n_S rfl) (xword hts hlk rfl) ⟨by decide, by decide, by decide +kernel⟩ ⟨by show 1 + 1 ≤ R.frames; omega, by show 8 + (1 + 11) + 64 * 1 ≤ R.locals; omega⟩, xword hts s_i_len rfl, xword hts s_s_len rfl⟩ ⟨sPc_blind, vk_recv (adK := fun x => E (x + 2)) (i := k) hStr hk hS, fun U hU hW => ⟨rfl, by rw [hU]; exact xO.warm hW hO2⟩⟩ rfl rfl hl.2.1 rfl (by show 2 * 0 + _ ≤ 8; rw [x_alike]; omega) hdg hr) (kk H locs ls hrep hS hl)
        · cases h2
      · rw [if_neg h902] at h2
        by_cases h903 : a = 903
        · rw [if_pos h903] at h2
          simp only [xlk, if_pos ha, if_neg h902, if_pos h903, decide_eq_true_eq] at hlk
          split at h2
          · rename_i i0 k r
            obtain ⟨hk, h3⟩ := xif_s h2
            obtain ⟨hcat, h4⟩ := xif_s h3
            obtain ⟨hi, h5⟩ := xin_s h4
            cases h5
            exact s_after (v := some (.int (xsch k i0.toNatClampNeg))) (va_runV (C := "java/lang/String") (As := [.int i0]) (b := E (k + 2)) (rest := r.map (xtr B0 E)) fix (s_cha (l := l) (B0 := B0) (E := E) hk hi) ⟨callB_of (bytes := s_c_cha) (maxL := 2) (ret := some .char) (ws' := xgw) 1 hts (s_good s_w_cha) rfl rfl rfl (xword hts s_n_S rfl) (xword hts hlk rfl) ⟨by decide, by decide, by decide +kernel⟩ ⟨by show 3 + 1 ≤ R.frames; omega, by show 8 + (2 + 11) + 64 * 3 ≤ R.locals; omega⟩, xword hts s_i_cha rfl, xword hts s_s_cha rfl⟩ ⟨sPc_blind, vk_recv (adK := fun x => E (x + 2)) (i := k) hStr hk hS, fun U hU hW => ⟨rfl, by rw [hU]; exact xO.warm hW hO2⟩⟩ rfl rfl hl.2.1 rfl (by show 2 * 0 + _ ≤ 8; rw [x_alike]; omega) hdg hr) (kk H locs ls hrep hS hl)
          · cases h2
        · rw [if_neg h903] at h2
          cases h2
    · rw [if_neg ha] at h1
      obtain ⟨-, h3⟩ := xrcv_s h1
      obtain ⟨-, -, -, h4⟩ := xcall_s h3
      cases h4
  | invokestatic idx =>
    obtain ⟨e0, h1⟩ := x1_s hs
    dsimp only at e0
    subst e0
    by_cases ha : 900 ≤ a
    · rw [if_pos ha] at h1
      obtain ⟨hd0, h2⟩ := xifn_s h1
      simp only [xlk, if_pos ha] at hlk
      by_cases h904 : a = 904
      · rw [if_pos h904] at h2
        obtain ⟨x, y, r, e1, h3⟩ := xII_s h2
        obtain ⟨hcat, h4⟩ := xif_s h3
        cases h4
        subst e1
        rw [if_pos h904, decide_eq_true_eq] at hlk
        exact va_mmax hx hb (by rw [hml]; exact hl.2.1.symm) hown (xword hts hlk rfl) (xword hts xpMaxS rfl) (xword hts xpMathI rfl) (xword hts xpMaxC rfl) (by omega) (by rw [x_alike]; omega) hr.1 hr.2 hdg (kk H locs ls hrep hS hl)
      · rw [if_neg h904] at h2
        by_cases h905 : a = 905
        · rw [if_pos h905] at h2
          obtain ⟨x, y, r, e1, h3⟩ := xII_s h2
          obtain ⟨hcat, h4⟩ := xif_s h3
          cases h4
          subst e1
          rw [if_neg h904, if_pos h905, decide_eq_true_eq] at hlk
          exact va_mmin hx hb (by rw [hml]; exact hl.2.1.symm) hown (xword hts hlk rfl) (xword hts xpMinS rfl) (xword hts xpMathI rfl) (xword hts xpMinC rfl) (by omega) (by rw [x_alike]; omega) hr.1 hr.2 hdg (kk H locs ls hrep hS hl)
        · rw [if_neg h905] at h2
          by_cases h901 : a = 901
          · rw [if_pos h901] at h2
            rw [if_neg h904, if_neg h905, if_pos h901, decide_eq_true_eq] at hlk
            unfold xcopy at h2
            split at h2
            · rename_i n0v dp0 b0 sp0 a0 r
              obtain ⟨hfull, h3⟩ := xif_s h2
              obtain ⟨hcat, h4⟩ := xif_s h3
              obtain ⟨t0, m0, q1, q2, h5⟩ := xarr_s h4
              obtain ⟨t1, m1, q3, q4, h6⟩ := xarr_s h5
              obtain ⟨hno, h7⟩ := xifn_s h6
              have n1 : ¬ sp0 < 0 := fun z => hno (Or.inl z)
              have n2 : ¬ dp0 < 0 := fun z => hno (Or.inr (Or.inl z))
              have n3 : ¬ n0v < 0 := fun z => hno (Or.inr (Or.inr (Or.inl z)))
              have n4 : sp0.toNatClampNeg + n0v.toNatClampNeg ≤ m0 := Nat.not_lt.mp fun z => hno (Or.inr (Or.inr (Or.inr (Or.inl z))))
              have n5 : dp0.toNatClampNeg + n0v.toNatClampNeg ≤ m1 := Nat.not_lt.mp fun z => hno (Or.inr (Or.inr (Or.inr (Or.inr z))))
              have hnf : nativeFrameWords "java/lang/System" "arraycopy" 5 ≤ 20 := by decide
              have e9 := xw_get (B0 := B0) (E := E) (cA := cA) q1
              have e8 := xw_get (B0 := B0) (E := E) (cA := cA) q3
              rw [xce_arr q2] at e9
              rw [xce_arr q4] at e8
              cases hII : (xisI t0 && xisI t1) with
              | true =>
                rw [hII] at h7
                cases h7
                rw [Bool.and_eq_true] at hII
                have u1 := xisI_s hII.1
                have u2 := xisI_s hII.2
                subst u1
                subst u2
                refine va_copyi hx hb (by rw [hml]; exact hl.2.1.symm) hown (xword hts hlk rfl) (xword hts xpCopyN rfl) (xword hts xpCopyS rfl) (xword hts xpSysI rfl) hK hrep.2 xw_D hS a0 b0 0 0 e9 e8 rfl rfl rfl n1 n2 n3 n4 n5 (fun _ _ => rfl) (by omega) (by rw [x_alike]; omega) hdg (fun H1 locs1 hP1 _ hS1 => kk H1 locs1 ls ⟨fun hlt => absurd hfull (Nat.ne_of_lt hlt), ?_⟩ hS1 hl)
                rw [← xw_set (h := h) (h' := xcpyI h a0 b0 sp0.toNatClampNeg dp0.toNatClampNeg n0v.toNatClampNeg) (c := b0) (ee := .inl (cA .int, m1, .inl (va_cpy (h.2.1 a0) (h.2.1 b0) sp0.toNatClampNeg dp0.toNatClampNeg n0v.toNatClampNeg))) rfl (by rw [xce_arr q4]; simp [xcpyI, va_up, xisJ]) (fun k hk => xce_same ⟨if_neg hk, rfl, rfl⟩)]
                exact hP1
              | false =>
                rw [hII] at h7
                obtain ⟨hJJ, h8⟩ := xcond_s h7
                cases h8
                rw [Bool.and_eq_true] at hJJ
                have u1 := xisJ_s hJJ.1
                have u2 := xisJ_s hJJ.2
                subst u1
                subst u2
                refine va_copyl hx hb (by rw [hml]; exact hl.2.1.symm) hown (xword hts hlk rfl) (xword hts xpCopyN rfl) (xword hts xpCopyS rfl) (xword hts xpSysI rfl) hK hrep.2 xw_D hS a0 b0 1 1 e9 e8 rfl rfl rfl n1 n2 n3 n4 n5 (fun _ _ => rfl) (by omega) (by rw [x_alike]; omega) hdg (fun H1 locs1 hP1 _ hS1 => kk H1 locs1 ls ⟨fun hlt => absurd hfull (Nat.ne_of_lt hlt), ?_⟩ hS1 hl)
                rw [← xw_set (h := h) (h' := xcpyL h a0 b0 sp0.toNatClampNeg dp0.toNatClampNeg n0v.toNatClampNeg) (c := b0) (ee := .inl (cA .long, m1, .inr (.inl (va_cpy (h.2.2.1 a0) (h.2.2.1 b0) sp0.toNatClampNeg dp0.toNatClampNeg n0v.toNatClampNeg)))) rfl (by rw [xce_arr q4]; simp [xcpyL, va_up, xisJ]) (fun k hk => xce_same ⟨rfl, if_neg hk, rfl⟩)]
                exact hP1
            · cases h2
          · rw [if_neg h901] at h2
            cases h2
    · rw [if_neg ha] at h1
      obtain ⟨-, -, -, h2⟩ := xcall_s h1
      cases h2
  | ireturn =>
    obtain ⟨e0, h1⟩ := x1_s hs
    repeat' (first | (cases h1; done) | split at h1)
  | lreturn =>
    obtain ⟨e0, h1⟩ := x1_s hs
    repeat' (first | (cases h1; done) | split at h1)
  | areturn =>
    obtain ⟨e0, h1⟩ := x1_s hs
    repeat' (first | (cases h1; done) | split at h1)
  | return_ =>
    obtain ⟨e0, h1⟩ := x1_s hs
    repeat' (first | (cases h1; done) | split at h1)
  | _ => exact fall hs
