/-! soundness of the run -/
def xws (j : Nat) : List Cond := Cond.code (xmy j) (xmc j) (xml j) (xmv j) :: xgw
def xRm (d mc ms : Nat) : Room := { frames := d, cells := mc, slots := ms, locals := 64 * d }
def xPc (D : va_G) (cA : FieldType → ClassId) (B0 : Nat) (E : Nat → Nat) (L : Nat) (xs : Nat → Int32) (as : List Value) (h : xH) : Array Value → State → Prop := fun a U => a = (as.map (xtr B0 E)).toArray ∧ xRep D cA B0 E h U.heap ∧ xG D cA B0 E L xs U
def xQc (D : va_G) (cA : FieldType → ClassId) (B0 : Nat) (E : Nat → Nat) (v : Option Value) (h' : xH) : Array Value → State → Outcome → State → Prop := fun _ st o t => o = .returned (v.map (xtr B0 E)) ∧ xRep D cA B0 E h' t.heap ∧ va_F (fun q => B0 ≤ q) st t
theorem xgw_good {w : Cond} (h : w ∈ xgw) : goodWord w = true := (List.mem_filter.mp h).2
theorem xm_s {j : Nat} (h0 : 0 < j) (h : j < xMn) : Cond.code (xmy j) (xmc j) (xml j) (xmv j) ∈ xgw ∧ (if xms j then Cond.static (xmy j) else Cond.instanceMethod (xmy j)) ∈ xgw ∧ (xms j = true ∨ (xmy j).name = "<init>" ∨ Cond.selects (xmy j).cls (xmy j) (xmy j) ∈ xgw) ∧ Cond.initialized (xmy j).cls ∈ xgw ∧ (xmy j).cls ≠ "java/lang/invoke/MethodHandle" ∧ (xmy j).cls ≠ "java/lang/invoke/VarHandle" ∧ plainName (xmy j).cls = true ∧ xml j ≤ 40 := by
  have h1 := xmok_all j h0 h
  unfold xmok at h1
  simp only [Bool.and_eq_true, decide_eq_true_eq, Bool.or_eq_true] at h1
  obtain ⟨⟨⟨⟨⟨⟨⟨a1, a2⟩, a3⟩, a4⟩, a5⟩, a6⟩, a7⟩, a8⟩ := h1
  refine ⟨?_, ?_, ?_, List.mem_filter.mpr ⟨List.mem_of_getElem? a4, rfl⟩, a5, a6, a7, a8⟩
  · split at a1
    · rename_i y b l r hw
      simp only [Bool.and_eq_true, decide_eq_true_eq] at a1
      obtain ⟨⟨e1, e2⟩, e3⟩ := a1
      have e4 : xmc j = b := by unfold xmc; rw [hw]
      rw [e4, ← e1, ← e2, ← e3]
      exact List.mem_filter.mpr ⟨List.mem_of_getElem? hw, rfl⟩
    · cases a1
  · refine List.mem_filter.mpr ⟨List.mem_of_getElem? a2, ?_⟩
    split <;> rfl
  · rcases a3 with (a3 | a3) | a3
    · exact Or.inl a3
    · exact Or.inr (Or.inl a3)
    · exact Or.inr (Or.inr (List.mem_filter.mpr ⟨List.mem_of_getElem? a3, rfl⟩))
theorem xws_good {j : Nat} (h0 : 0 < j) (h : j < xMn) : GoodIn xgw (xws j) := by
  intro w hw
  rcases List.mem_cons.mp hw with rfl | hw
  · have := (xm_s h0 h).1
    exact ⟨this, good_of_word (xgw_good this)⟩
  · exact ⟨hw, good_of_word (xgw_good hw)⟩
theorem xG_warm {D : va_G} {cA : FieldType → ClassId} {B0 : Nat} {E : Nat → Nat} {L : Nat} {xs : Nat → Int32} {s U : State} {H : Heap} {locs : List Loc} (hG : xG D cA B0 E L xs s) (hS : va_S (fun q => B0 ≤ q) s.heap H locs) (hU : U.heap = H) (hW : s.WarmedH U.vm) : xG D cA B0 E L xs U := by
  obtain ⟨hK, hN, hE, hX, hB, hO⟩ := hG
  refine ⟨va_K.moved hW.alike hK, fun i own idx y host h => va_Nw.warmM hW (hN i own idx y host h), hE, ?_, by rw [hU]; exact Nat.le_trans hB hS.1, ?_⟩
  · rw [hU]
    exact va_X.moved hW.alike (hX.kept (hS.2.1 _ (Nat.lt_of_lt_of_le hE hB) (Nat.not_le.mpr hE)))
  · rw [hU]
    exact xO.warm hW (hO.kept hS.2.1)
theorem xPc_blind {D : va_G} {cA : FieldType → ClassId} {B0 : Nat} {E : Nat → Nat} {L : Nat} {xs : Nat → Int32} {as : List Value} {h : xH} : FrameBlind (xPc D cA B0 E L xs as h) := by
  intro a U g mk q
  obtain ⟨q1, q2, q3, q4, q5, q6, q7, q8⟩ := q
  exact ⟨q1, q2, va_K.moved (u := U) (U := U.calling g mk a) (Vm.Alike.refl U.vm) q3, fun i own idx y host hw => va_Nw.same (u := U) rfl rfl (q4 i own idx y host hw), q5, va_X.moved (u := U) (U := U.calling g mk a) (Vm.Alike.refl U.vm) q6, q7, xO.same (s := U) (U := U.calling g mk a) rfl q8⟩
/-- behind a call -/
theorem x_after {p : Program} {l : Launch} {e : Env} {R : Room} {s : State} {m : MethodId} {args : Array Value} {below : List Frame} {meth : Method} {c : Code} {H : Heap} {locs : List Loc} {cells slots mc ms pc : Nat} {Q : State → Prop} {ls : Array Slot} {D : va_G} {cA : FieldType → ClassId} {B0 : Nat} {E : Nat → Nat} {st0 rest : List Value} {v : Option Value} {h1 : xH} {av : Array Value}
    (hr : va_Run p l e R s m args below meth c H locs cells slots mc ms (F0 m pc ls st0) rest (xQc D cA B0 E v h1 av) (fun q => B0 ≤ q)) (hS : va_S (fun q => B0 ≤ q) s.heap H locs)
    (kk : ∀ H1 locs1, xRep D cA B0 E h1 H1 → va_S (fun q => B0 ≤ q) s.heap H1 locs1 → W p l e R s m args below meth c H1 locs1 (cells + mc) (slots + ms) Q (F0 m (pc + 3) ls ((v.map (xtr B0 E)).toList ++ rest))) : W p l e R s m args below meth c H locs cells slots Q (F0 m pc ls st0) := by
  intro T hT X
  obtain ⟨w, st₀, t, T', LL, h0, X', hL, e1, e2, ⟨hv, hrep, hz, hk⟩, st⟩ := hr T hT X
  cases hv
  rw [h0] at hz hk
  rw [← e1] at hrep
  obtain ⟨t2, a1, b1⟩ := kk T'.heap (locs ++ LL) hrep ⟨Nat.le_trans hS.1 (by rw [e1]; exact hz), fun q h1 h2 => by rw [e1, hk q (Nat.lt_of_lt_of_le h1 hS.1) h2]; exact hS.2.1 q h1 h2, fun q hq => by
      rcases List.mem_append.mp hq with h | h
      · exact hS.2.2 q h
      · exact hL q h⟩ T' rfl X'
  exact ⟨t2, st t2 a1, b1⟩
/-- the run from a place of method j is the machine's; what is owed at its return is a hypothesis -/
def xSound (L : Nat) (xs : Nat → Int32) (n : Nat) : Prop := ∀ (d j pc : Nat) (lv st : List Value) (h h' : xH) (v : Option Value), xrun L xs n d j pc lv st h = some (v, h') →
  ∀ (p : Program) (l : Launch) (e : Env) (R : Room) (s : State) (m : MethodId) (args : Array Value) (below : List Frame) (meth : Method) (c : Code) (H : Heap) (locs : List Loc) (Q : State → Prop) (ls : Array Slot) (D : va_G) (cA : FieldType → ClassId) (B0 : Nat) (E : Nat → Nat) (n0 : Nat),
  xCx p s m args meth c D cA B0 E L xs j → (d ≤ R.frames ∧ 64 * d ≤ R.locals) → xRep D cA B0 E h H → xL B0 E ls (xml j) lv → va_S (fun q => B0 ≤ q) s.heap H locs → n0 ≤ h.1 → (h'.1 - n0 ≤ R.cells ∧ xslots h'.1 - xslots n0 ≤ R.slots) →
  (∀ (pc1 : Nat) (ls1 : Array Slot) (H1 : Heap) (locs1 : List Loc) (q : xQ) (st1 : List Value), xins j pc1 = some q → xrt j q st1 v → xRep D cA B0 E h' H1 → va_S (fun q => B0 ≤ q) s.heap H1 locs1 → W p l e R s m args below meth c H1 locs1 (h'.1 - n0) (xslots h'.1 - xslots n0) Q (F0 m pc1 ls1 (st1.map (xtr B0 E)))) →
  W p l e R s m args below meth c H locs (h.1 - n0) (xslots h.1 - xslots n0) Q (F0 m pc ls (st.map (xtr B0 E)))
set_option maxHeartbeats 4000000 in
/-- a method by the run of its body -/
theorem x_met {L : Nat} {xs : Nat → Int32} {n : Nat} (ih : xSound L xs n) {l : Launch} {D : va_G} {cA : FieldType → ClassId} {B0 : Nat} {E : Nat → Nat} {d j : Nat} {as : List Value} {h h' : xH} {v : Option Value} (h0 : 0 < j) (hj : j < xMn) (hlen : (as.map fun v => v.category).sum ≤ xml j) (hr : xrun L xs n d j 0 (xent as (xml j)) [] h = some (v, h')) :
    Met l (xmy j) (xws j) (xRm d (h'.1 - h.1) (xslots h'.1 - xslots h.1)) (xPc D cA B0 E L xs as h) (xQc D cA B0 E v h') (h'.1 - h.1) (xslots h'.1 - xslots h.1) (fun q => B0 ≤ q) := by
  refine Met.ofW (cc := xmc j) (maxL := xml j) (ret := xmv j) (xm_s h0 hj).2.2.2.2.2.2.1 rfl ?_
  intro p e s m args below meth c s₁ B hml hv
  obtain ⟨rfl, hrep, hG⟩ := hv
  have hts0 := atoms_spec (ws := xws j) B.pre
  have hts : ∀ w ∈ xgw, w.before (as.map (xtr B0 E)).toArray s = true := fun w hw => hts0 w (List.mem_cons_of_mem _ hw)
  have hret := B.returns
  have hlocks := B.notSynchronized
  have hx := B.exec
  have hb := B.bytes
  rw [lg_entry_eq]
  have key := ih d j 0 (xent as (xml j)) [] h h' v hr p l e (xRm d (h'.1 - h.1) (xslots h'.1 - xslots h.1)) s m (as.map (xtr B0 E)).toArray below meth c s.heap [] (MQ below (xQc D cA B0 E v h') (as.map (xtr B0 E)).toArray s (h'.1 - h.1) (xslots h'.1 - xslots h.1) (fun q => B0 ≤ q)) _ D cA B0 E h.1
    ⟨hx, hb, hml, findClass_of_methodNamed B.named, fun hi => by rw [(name_of_methodNamed B.named B.method).1]; exact hi, hts, hG⟩ ⟨Nat.le_refl _, Nat.le_refl _⟩ hrep (xL_entry hlen) va_S.rf (Nat.le_refl _) ⟨Nat.le_refl _, Nat.le_refl _⟩ ?_
  · rw [Nat.sub_self, Nat.sub_self] at key
    exact key
  · intro pc1 ls1 H1 locs1 q st1 hq hrt hrep1 hS1
    obtain ⟨hdg, -⟩ := xok_s hq
    have hQ : ∀ t : State, t.heap = H1 → s.WarmedH t.vm → xQc D cA B0 E v h' (as.map (xtr B0 E)).toArray s (.returned (v.map (xtr B0 E))) t := fun t ht _ => ⟨rfl, by rw [ht]; exact hrep1, hS1.F ht⟩
    rcases hrt with ⟨e1, e2, e3, e4, e5⟩ | ⟨x, e1, e2, e3, e4, e5⟩ | ⟨x, e1, e2, e3, e4, e5⟩ | ⟨x, CC, e1, e2, e3, e4, e5⟩
    · subst e3; subst e4
      rw [e1, e2] at hdg
      rw [e5] at hret
      exact W.vret hx hb hret hQ hS1.2.2 hdg
    · subst e3; subst e4
      rw [e1, e2] at hdg
      rcases e5 with e5 | ⟨e5, e6⟩
      · rw [e5] at hret
        exact W.iret hx hb hret hQ hS1.2.2 hdg
      · rw [e5] at hret
        refine W.zret hx hb hret ?_ hQ hS1.2.2 hdg
        rcases e6 with rfl | rfl <;> rfl
    · subst e3; subst e4
      rw [e1, e2] at hdg
      rw [e5] at hret
      exact W.lret hx hb hret hQ hS1.2.2 hdg
    · subst e3; subst e4
      rw [e1, e2] at hdg
      rw [e5] at hret
      exact W.aret hx hb hret (Or.inl ⟨_, rfl⟩) (Or.inr ⟨_, rfl⟩) hQ hS1.2.2 hdg
theorem x_take {B0 : Nat} {E : Nat → Nat} {st : List Value} {na : Nat} : (((st.take na).reverse).map (xtr B0 E)).reverse ++ (st.drop na).map (xtr B0 E) = st.map (xtr B0 E) := by
  rw [← List.map_reverse, List.reverse_reverse, ← List.map_append, List.take_append_drop]
theorem x_split {B0 : Nat} {E : Nat → Nat} {st : List Value} {na g : Nat} (h : st[na]? = some (.ref g)) : ((st.take (na + 1)).reverse).map (xtr B0 E) = .ref (B0 + g) :: ((st.take na).reverse).map (xtr B0 E) ∧ st.map (xtr B0 E) = (((st.take na).reverse).map (xtr B0 E)).reverse ++ .ref (B0 + g) :: (st.drop (na + 1)).map (xtr B0 E) := by
  have e1 : st.take (na + 1) = st.take na ++ [.ref g] := by rw [List.take_add_one, h]; rfl
  refine ⟨by rw [e1, List.reverse_append]; rfl, ?_⟩
  rw [← List.map_reverse, List.reverse_reverse]
  have e2 : st = st.take na ++ .ref g :: st.drop (na + 1) := by
    have := List.take_append_drop (na + 1) st
    rw [e1, List.append_assoc] at this
    exact this.symm
  have e3 : st.map (xtr B0 E) = (st.take na ++ .ref g :: st.drop (na + 1)).map (xtr B0 E) := by rw [← e2]
  rw [e3, List.map_append]
  rfl
theorem x_rcat {as : List Value} : (as.reverse.map fun v => v.category).sum = (as.map fun v => v.category).sum := by
  rw [List.map_reverse, List.sum_reverse]
theorem xnext_s {L : Nat} {xs : Nat → Int32} {n d j pc : Nat} {lv st : List Value} {h : xH} {pc1 : Nat} {lv1 st1 : List Value} {h1 : xH} (hr : xnext L xs n d j pc lv st h = some (pc1, lv1, st1, h1)) :
    ∃ q, xins j pc = some q ∧ (xstep L xs d j q pc lv st h = some (.inl (pc1, lv1, st1, h1)) ∨ ∃ j1 as rest d1 v1, xstep L xs d j q pc lv st h = some (.inr (.inr (j1, as, rest))) ∧ d = d1 + 1 ∧ xrun L xs n d1 j1 0 (xent as (xml j1)) [] h = some (v1, h1) ∧ pc1 = pc + 3 ∧ lv1 = lv ∧ st1 = v1.toList ++ rest) := by
  unfold xnext at hr
  cases hq : xins j pc with
  | none => rw [hq] at hr; cases hr
  | some q =>
    rw [hq] at hr
    dsimp only at hr
    refine ⟨q, rfl, ?_⟩
    cases hs : xstep L xs d j q pc lv st h with
    | none => rw [hs] at hr; cases hr
    | some r =>
      rw [hs] at hr
      rcases r with f | v1 | ⟨j1, as, rest⟩
      · cases hr
        exact Or.inl rfl
      · cases hr
      · dsimp only at hr
        cases d with
        | zero => cases hr
        | succ d1 =>
          dsimp only at hr
          cases hc : xrun L xs n d1 j1 0 (xent as (xml j1)) [] h with
          | none => rw [hc] at hr; cases hr
          | some z =>
            obtain ⟨v1, h2⟩ := z
            rw [hc] at hr
            cases hr
            exact Or.inr ⟨j1, as, rest, d1, v1, rfl, rfl, hc, rfl, rfl, rfl⟩
theorem xnext_mono {L : Nat} {xs : Nat → Int32} {n d j pc : Nat} {lv st : List Value} {h : xH} {pc1 : Nat} {lv1 st1 : List Value} {h1 : xH} (hr : xnext L xs n d j pc lv st h = some (pc1, lv1, st1, h1)) : h.1 ≤ h1.1 := by
  obtain ⟨q, -, hs | ⟨j1, as, rest, d1, v1, -, -, h2, -⟩⟩ := xnext_s hr
  · exact xstep_mono _ hs _ rfl
  · exact xrun_mono h2
set_option maxHeartbeats 8000000 in
/-- one step or one call -/
theorem x_one {L : Nat} {xs : Nat → Int32} {n : Nat} (ih : xSound L xs n) {p : Program} {l : Launch} {e : Env} {R : Room} {s : State} {m : MethodId} {args : Array Value} {below : List Frame} {meth : Method} {c : Code} {H : Heap} {locs : List Loc} {Q : State → Prop} {ls : Array Slot} {D : va_G} {cA : FieldType → ClassId} {B0 : Nat} {E : Nat → Nat} {n0 d j pc pc1 : Nat} {lv st lv1 st1 : List Value} {h h1 : xH}
    (hnx : xnext L xs n d j pc lv st h = some (pc1, lv1, st1, h1)) (C : xCx p s m args meth c D cA B0 E L xs j) (hd : d ≤ R.frames ∧ 64 * d ≤ R.locals) (hrep : xRep D cA B0 E h H) (hl : xL B0 E ls (xml j) lv) (hS : va_S (fun q => B0 ≤ q) s.heap H locs) (hn : n0 ≤ h.1) (hroom : h1.1 - n0 ≤ R.cells ∧ xslots h1.1 - xslots n0 ≤ R.slots)
    (kk : ∀ H1 locs1 ls1, xRep D cA B0 E h1 H1 → va_S (fun q => B0 ≤ q) s.heap H1 locs1 → xL B0 E ls1 (xml j) lv1 → W p l e R s m args below meth c H1 locs1 (h1.1 - n0) (xslots h1.1 - xslots n0) Q (F0 m pc1 ls1 (st1.map (xtr B0 E)))) : W p l e R s m args below meth c H locs (h.1 - n0) (xslots h.1 - xslots n0) Q (F0 m pc ls (st.map (xtr B0 E))) := by
  have z0 := xslots_mono hn
  have m1 := xnext_mono hnx
  have z1 := xslots_mono m1
  obtain ⟨q, hq, hs | ⟨j1, as, rest, d1, v1, hs, rfl, h2, rfl, rfl, rfl⟩⟩ := xnext_s hnx
  · exact x_step C hq hs hd hrep hl hS hn hroom z0 kk
  · obtain ⟨e0, e1, hcase⟩ := (xstep_end _ hs).2 _ rfl
    dsimp only at e1
    subst e1
    obtain ⟨hdg, hlk⟩ := xok_s hq
    have C0 := C
    obtain ⟨hx, hb, hml, hown, hin, hts, hG⟩ := C
    obtain ⟨i, len, a, b, w⟩ := q
    dsimp only at e0 hdg hcase
    subst e0
    have kont : ∀ H1 locs1, xRep D cA B0 E h1 H1 → va_S (fun q => B0 ≤ q) s.heap H1 locs1 → W p l e R s m args below meth c H1 locs1 (h.1 - n0 + (h1.1 - h.1)) (xslots h.1 - xslots n0 + (xslots h1.1 - xslots h.1)) Q (F0 m (pc + 3) ls ((v1.map (xtr B0 E)).toList ++ rest.map (xtr B0 E))) := by
      intro H1 locs1 hr1 hS1
      have k2 := kk H1 locs1 ls hr1 hS1 hl
      have e5 : (v1.toList ++ rest).map (xtr B0 E) = (v1.map (xtr B0 E)).toList ++ rest.map (xtr B0 E) := by
        rw [List.map_append]
        cases v1 <;> rfl
      rw [e5] at k2
      rw [show h.1 - n0 + (h1.1 - h.1) = h1.1 - n0 by omega, show xslots h.1 - xslots n0 + (xslots h1.1 - xslots h.1) = xslots h1.1 - xslots n0 by omega]
      exact k2
    have fix : CallFix p m c (xmc j) (xml j) s args xgw (xmy j).cls := ⟨hx, hb, hml, hown, hts⟩
    have pre : ∀ U : State, U.heap = H → s.WarmedH U.vm → xPc D cA B0 E L xs as h (as.map (xtr B0 E)).toArray U := fun U hU hW => ⟨rfl, by rw [hU]; exact hrep, xG_warm hG hS hU hW⟩
    have hf : h.1 - n0 + (h1.1 - h.1) ≤ R.cells ∧ xslots h.1 - xslots n0 + (xslots h1.1 - xslots h.1) ≤ R.slots := ⟨by omega, by omega⟩
    have room : ∀ {k : Nat}, k ≤ 40 → (xRm d1 (h1.1 - h.1) (xslots h1.1 - xslots h.1)).frames + 1 ≤ R.frames ∧ 8 + (k + 11) + (xRm d1 (h1.1 - h.1) (xslots h1.1 - xslots h.1)).locals ≤ R.locals := by
      intro k hk
      have q1 : (xRm d1 (h1.1 - h.1) (xslots h1.1 - xslots h.1)).frames = d1 := rfl
      have q2 : (xRm d1 (h1.1 - h.1) (xslots h1.1 - xslots h.1)).locals = 64 * d1 := rfl
      rw [q1, q2]
      exact ⟨hd.1, by have := hd.2; omega⟩
    rcases hcase with ⟨idx, g, rfl, ha, g1, hc⟩ | ⟨idx, g, rfl, ha, g1, g2, g3, hc⟩ | ⟨idx, rfl, ha, hc⟩
    · -- a constructor
      obtain ⟨c1, c2, c3, c4⟩ := xcall_s hc
      cases c4
      simp only [xlk, if_neg ha, Bool.and_eq_true, decide_eq_true_eq, Bool.not_eq_true'] at hlk
      obtain ⟨⟨⟨⟨⟨⟨k1, k2⟩, k3⟩, k4⟩, k5⟩, k6⟩, k7⟩ := hlk
      obtain ⟨w1, w2, w3, w4, w5, w6, w7, w8⟩ := xm_s k1 k2
      rw [k3] at w2
      have hlen : (((st.take (xnarg a + 1)).reverse).map fun v => v.category).sum ≤ xml a := by rw [x_rcat]; exact c3
      have hM := x_met ih (l := l) (D := D) (cA := cA) (B0 := B0) (E := E) k1 k2 hlen h2
      obtain ⟨es1, es2⟩ := x_split (B0 := B0) (E := E) g1
      rw [es1] at pre
      refine x_after (va_runI (As := ((st.take (xnarg a)).reverse).map (xtr B0 E)) (b := B0 + g) (rest := (st.drop (xnarg a + 1)).map (xtr B0 E)) fix hM ⟨callB_of (bytes := xmc a) (maxL := xml a) (ws' := xgw) (xnarg a) hts (xws_good k1 k2) (by unfold xws; rw [k5]) rfl rfl (hts _ w4) (xword hts k7 rfl) ⟨w5, w6, xpd a k2⟩ (room w8), k4, hts _ w2⟩ ⟨xPc_blind, pre⟩ rfl (by simp; omega) hl.2.1 es2 (by show 2 * 0 + _ ≤ 8; rw [x_alike]; omega) hdg hf) hS kont
    · -- a method of an object
      obtain ⟨c1, c2, c3, c4⟩ := xcall_s hc
      cases c4
      simp only [xlk, if_neg ha, Bool.and_eq_true, decide_eq_true_eq, Bool.not_eq_true'] at hlk
      obtain ⟨⟨⟨⟨⟨k1, k2⟩, k3⟩, k4⟩, k5⟩, k6⟩ := hlk
      obtain ⟨w1, w2, w3, w4, w5, w6, w7, w8⟩ := xm_s k1 k2
      rw [k3] at w2
      have wsel : Cond.selects (xmy a).cls (xmy a) (xmy a) ∈ xgw := (w3.resolve_left (by rw [k3]; decide)).resolve_left k4
      have hlen : (((st.take (xnarg a + 1)).reverse).map fun v => v.category).sum ≤ xml a := by rw [x_rcat]; exact c3
      have hM := x_met ih (l := l) (D := D) (cA := cA) (B0 := B0) (E := E) k1 k2 hlen h2
      obtain ⟨es1, es2⟩ := x_split (B0 := B0) (E := E) g1
      rw [es1] at pre
      have hcl : xmcl a < 13 := by have := xsh_ok g3; simpa [xshok] using this
      have he := xw_get (B0 := B0) (E := E) (cA := cA) g2
      rw [xce_obj g3] at he
      have hrc := va_recv hG.1 hrep.2 (xcl_get hcl) he
      rw [show (xcn (xmcl a), xT (xmcl a), xnf (xmcl a)).1 = (xmy a).cls from xmcl_ok a k2 hcl] at hrc
      refine x_after (va_runV (C := (xmy a).cls) (As := ((st.take (xnarg a)).reverse).map (xtr B0 E)) (b := B0 + g) (rest := (st.drop (xnarg a + 1)).map (xtr B0 E)) fix hM ⟨callB_of (bytes := xmc a) (maxL := xml a) (ret := xmv a) (ws' := xgw) (xnarg a) hts (xws_good k1 k2) rfl rfl rfl (hts _ w4) (xword hts k6 rfl) ⟨w5, w6, xpd a k2⟩ (room w8), hts _ w2, hts _ wsel⟩ ⟨xPc_blind, hrc, pre⟩ rfl (by simp; omega) hl.2.1 es2 (by show 2 * 0 + _ ≤ 8; rw [x_alike]; omega) hdg hf) hS kont
    · -- a static method
      obtain ⟨c1, c2, c3, c4⟩ := xcall_s hc
      cases c4
      simp only [xlk, if_neg ha, Bool.and_eq_true, decide_eq_true_eq] at hlk
      obtain ⟨⟨⟨k1, k2⟩, k3⟩, k6⟩ := hlk
      obtain ⟨w1, w2, w3, w4, w5, w6, w7, w8⟩ := xm_s k1 k2
      rw [if_pos k3] at w2
      have hlen : (((st.take (xnarg a)).reverse).map fun v => v.category).sum ≤ xml a := by rw [x_rcat]; exact c3
      have hM := x_met ih (l := l) (D := D) (cA := cA) (B0 := B0) (E := E) k1 k2 hlen h2
      by_cases hb0 : b = 0
      · rw [if_pos hb0, decide_eq_true_eq] at k6
        refine x_after (va_runS (As := ((st.take (xnarg a)).reverse).map (xtr B0 E)) (rest := (st.drop (xnarg a)).map (xtr B0 E)) fix hM ⟨callB_of (bytes := xmc a) (maxL := xml a) (ret := xmv a) (ws' := xgw) (xnarg a) hts (xws_good k1 k2) rfl rfl rfl (hts _ w4) (xword hts k6 rfl) ⟨w5, w6, xpd a k2⟩ (room w8), hts _ w2⟩ ⟨xPc_blind, pre⟩ rfl (by simp; omega) hl.2.1 x_take.symm (by show 2 * 0 + _ ≤ 8; rw [x_alike]; omega) hdg hf) hS kont
      · rw [if_neg hb0, decide_eq_true_eq] at k6
        refine x_after (va_runSN (As := ((st.take (xnarg a)).reverse).map (xtr B0 E)) (rest := (st.drop (xnarg a)).map (xtr B0 E)) fix hM ⟨va_cnB (host := "OneHead") (bytes := xmc a) (maxL := xml a) (ret := xmv a) (ws' := xgw) (xnarg a) hts (xws_good k1 k2) rfl rfl rfl (hG.2.1 _ _ _ _ _ k6) (hts _ w4) ⟨w5, w6, xpd a k2⟩ (room w8), hts _ w2, trivial⟩ ⟨xPc_blind, pre⟩ rfl (by simp; omega) hl.2.1 x_take.symm (by show 2 * 0 + _ ≤ 8; rw [x_alike]; omega) hdg hf) hS kont
theorem xgoN_mono {L : Nat} {xs : Nat → Int32} {n d j : Nat} {pc1 : Nat} {lv1 st1 : List Value} {h1 : xH} : ∀ (k : Nat) {pc : Nat} {lv st : List Value} {h : xH}, xgoN L xs n d j k pc lv st h = some (pc1, lv1, st1, h1) → h.1 ≤ h1.1 := by
  intro k
  induction k with
  | zero => intro pc lv st h hg; cases hg; exact Nat.le_refl _
  | succ k ih =>
    intro pc lv st h hg
    have hg2 : (match xnext L xs n d j pc lv st h with | none => none | some (pc', lv', st', h') => xgoN L xs n d j k pc' lv' st' h') = some (pc1, lv1, st1, h1) := hg
    cases hnx : xnext L xs n d j pc lv st h with
    | none => rw [hnx] at hg2; cases hg2
    | some f =>
      obtain ⟨pc2, lv2, st2, h2⟩ := f
      rw [hnx] at hg2
      exact Nat.le_trans (xnext_mono hnx) (ih hg2)
theorem x_sound (L : Nat) (xs : Nat → Int32) : ∀ n, xSound L xs n := by
  intro n
  induction n with
  | zero => intro d j pc lv st h h' v hr; cases hr
  | succ n ih =>
    intro d j pc lv st h h' v hr p l e R s m args below meth c H locs Q ls D cA B0 E n0 C hd hrep hl hS hn hroom kret
    have go : ∀ pc1 lv1 st1 h1, xnext L xs n d j pc lv st h = some (pc1, lv1, st1, h1) → xrun L xs n d j pc1 lv1 st1 h1 = some (v, h') → W p l e R s m args below meth c H locs (h.1 - n0) (xslots h.1 - xslots n0) Q (F0 m pc ls (st.map (xtr B0 E))) := by
      intro pc1 lv1 st1 h1 hnx h2
      have m1 := xnext_mono hnx
      have m2 := xrun_mono h2
      have z1 := xslots_mono m2
      exact x_one ih hnx C hd hrep hl hS hn ⟨by omega, by omega⟩ (fun H1 locs1 ls1 hr1 hS1 hl1 => ih d j pc1 lv1 st1 h1 h' v h2 p l e R s m args below meth c H1 locs1 Q ls1 D cA B0 E n0 C hd hr1 hl1 hS1 (Nat.le_trans hn m1) hroom kret)
    obtain ⟨q, hq, ⟨pc1, lv1, st1, h1, hs, h2⟩ | ⟨hs, rfl⟩ | ⟨j1, as, rest, d1, v1, h1, hs, rfl, h2, h3⟩⟩ := xrun_s hr
    · refine go pc1 lv1 st1 h1 ?_ h2
      unfold xnext
      rw [hq]
      dsimp only
      rw [hs]
    · exact kret pc ls H locs q st hq ((xstep_end _ hs).1 _ rfl) hrep hS
    · refine go (pc + 3) lv (v1.toList ++ rest) h1 ?_ h3
      unfold xnext
      rw [hq]
      dsimp only
      rw [hs]
      dsimp only
      rw [h2]
/-- k steps and calls -/
theorem x_goN {L : Nat} {xs : Nat → Int32} {n : Nat} {p : Program} {l : Launch} {e : Env} {R : Room} {s : State} {m : MethodId} {args : Array Value} {below : List Frame} {meth : Method} {c : Code} {Q : State → Prop} {D : va_G} {cA : FieldType → ClassId} {B0 : Nat} {E : Nat → Nat} {n0 d j pc1 : Nat} {lv1 st1 : List Value} {h1 : xH} (C : xCx p s m args meth c D cA B0 E L xs j) (hd : d ≤ R.frames ∧ 64 * d ≤ R.locals) (hroom : h1.1 - n0 ≤ R.cells ∧ xslots h1.1 - xslots n0 ≤ R.slots)
    (kk : ∀ H1 locs1 ls1, xRep D cA B0 E h1 H1 → va_S (fun q => B0 ≤ q) s.heap H1 locs1 → xL B0 E ls1 (xml j) lv1 → W p l e R s m args below meth c H1 locs1 (h1.1 - n0) (xslots h1.1 - xslots n0) Q (F0 m pc1 ls1 (st1.map (xtr B0 E)))) :
    ∀ (k pc : Nat) (lv st : List Value) (h : xH) (H : Heap) (locs : List Loc) (ls : Array Slot), xgoN L xs n d j k pc lv st h = some (pc1, lv1, st1, h1) → xRep D cA B0 E h H → xL B0 E ls (xml j) lv → va_S (fun q => B0 ≤ q) s.heap H locs → n0 ≤ h.1 → h.1 ≤ h1.1 ∧ W p l e R s m args below meth c H locs (h.1 - n0) (xslots h.1 - xslots n0) Q (F0 m pc ls (st.map (xtr B0 E))) := by
  intro k
  induction k with
  | zero =>
    intro pc lv st h H locs ls hg hrep hl hS hn
    cases hg
    exact ⟨Nat.le_refl _, kk H locs ls hrep hS hl⟩
  | succ k ih =>
    intro pc lv st h H locs ls hg hrep hl hS hn
    have hg2 : (match xnext L xs n d j pc lv st h with | none => none | some (pc', lv', st', h') => xgoN L xs n d j k pc' lv' st' h') = some (pc1, lv1, st1, h1) := hg
    cases hnx : xnext L xs n d j pc lv st h with
    | none => rw [hnx] at hg2; cases hg2
    | some f =>
      obtain ⟨pc2, lv2, st2, h2⟩ := f
      rw [hnx] at hg2
      dsimp only at hg2
      have m1 := xnext_mono hnx
      have m2 : h2.1 ≤ h1.1 := xgoN_mono k hg2
      have z2 := xslots_mono m2
      exact ⟨Nat.le_trans m1 m2, x_one (x_sound L xs n) hnx C hd hrep hl hS hn ⟨by omega, by omega⟩ (fun H2 locs2 ls2 hr2 hS2 hl2 => (ih pc2 lv2 st2 h2 H2 locs2 ls2 hg2 hr2 hl2 hS2 (Nat.le_trans hn m1)).2)⟩
