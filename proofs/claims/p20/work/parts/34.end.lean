set_option maxRecDepth 100000 in
theorem lw_0 : lwI xhN.2.1 xhN.2.2.2 := by
  refine ⟨lwT_0 ⟨by decide, by decide⟩ ⟨by decide, by decide⟩, ⟨0, 0, 0, [], Or.inl ⟨rfl, rfl, ?_⟩⟩, ?_, ⟨rfl, rfl⟩⟩
  · refine ⟨⟨by decide, by decide, by decide⟩, by decide, List.Pairwise.nil, (fun p hp => absurd hp List.not_mem_nil), ⟨rfl, rfl⟩, ⟨rfl, rfl⟩, ⟨rfl, rfl⟩, fun i h => absurd h (by omega), fun i h => absurd h (by omega), fun i h => absurd h (by omega), ⟨rfl, rfl⟩, (fun t a b h => by rw [List.getElem?_nil] at h; cases h), rfl, fun i h => absurd h (by omega), fun i h => absurd h (by omega), fun i h => absurd h (by omega), fun i h => absurd h (by omega)⟩
  · intro i hi
    match i, hi with
    | 0, _ => exact ⟨rfl, fun h => absurd h (by decide)⟩
    | 1, _ => exact ⟨rfl, fun h => absurd h (by decide)⟩
    | 2, _ => exact ⟨rfl, fun h => absurd h (by decide)⟩
    | 3, _ => exact ⟨rfl, fun h => absurd h (by decide)⟩
    | 4, _ => exact ⟨rfl, fun h => absurd h (by decide)⟩
    | 5, _ => exact ⟨rfl, fun h => absurd h (by decide)⟩
    | 6, _ => exact ⟨rfl, fun h => absurd h (by decide)⟩
    | i + 7, h => omega
/-! THE CLAIM OUT OF ONE WALK OF THE LAW'S BODY. Your part is whole_start (and what it stands on); all else here is the same for every law, but numbers. -/
def R_law : String := "OneHeadLaw"
def lw_P (b : Addr) (xs : List Int32) (args : Array Value) (s : State) : Prop := args = #[.ref b] ∧ s.IntsAt b xs ∧ xs.length ≤ 3584 ∧ (Jvm.Cond.and given_1 narrow_1).before args s = true
def lw_Q (_ : Array Value) (s : State) (o : Outcome) (t : State) : Prop := o = .returned (some (.int 1)) ∧ Framed s o t [] 600000 7302250
def lw_Z (below : List Frame) (a : Array Value) (s : State) : State → Prop := fun t => ∃ o, t.status = .running ∧ Ended t below o ∧ lw_Q a s o t
/-- the law's own end, with 1 on the stack, nothing written that was there before, its room as the claim has it -/
theorem lw_ret {p : Program} {l : Launch} {e : Env} {s : State} {m : MethodId} {below : List Frame} {meth : Method} {c : Code} {b : Nat} (hx : p.tables.exec = Jvm.exec) (hb : c.code = code) (hr : meth.sig.returnType = ret) (hlocks : meth.locks = false) {pc : Nat} {H : Heap} {ls : Array Slot} (hdg : decode code pc = .ok (.ireturn, 1)) : W p l e room_1 s m #[Value.ref b] below meth c H [] 600000 7302250 (lw_Z below #[Value.ref b] s) (F0 m pc ls [.int 1]) := by
  intro T hT X
  obtain ⟨fs, hret, hrun, hended, hW, hframe⟩ := X.leave (v := some (.int 1)) (hlocks := hlocks) (fun h => by rw [hr] at h; cases h)
  have hmeth' : T.vm.method? m = some meth := X.method'
  refine ⟨T.setFrames fs, ?_, .returned (some (.int 1)), hrun, hended, rfl, ⟨_, rfl⟩, hW, hframe⟩
  jvm_step X.here [X.here.top, hx, hb, hdg, hmeth', hr, ret, narrow_b1]
  (try refine ⟨rfl, ?_⟩); (try refine ⟨rfl, ?_⟩)
  first | (intro acts; rw [hret _ acts rfl rfl rfl]) | rw [hret _ _ rfl rfl rfl]
  exact Steps.refl _
/-- what holds at the law's entry: the machine, the code, the tables' words (any of lw_tbl by 'hts w (by decide +kernel)'), the script of L ints xs at the cell b, what the Statement gives of the start (any of its parts by flat_of_before) -/
def lw_At (p : Program) (s : State) (m : MethodId) (meth : Method) (c : Code) (b L : Nat) (xs : Nat → Int32) : Prop :=
  p.tables.exec = Jvm.exec ∧ c.code = code ∧ meth.sig.returnType = ret ∧ c.maxLocals = 4 ∧ s.vm.findClass R_law = some m.cls ∧ (∀ w ∈ lw_tbl, w.before #[Value.ref b] s = true) ∧ va_X b L xs s s.heap ∧ b < s.heap.size ∧ meth.locks = false ∧ (Jvm.Cond.and given_1 narrow_1).before #[Value.ref b] s = true
set_option maxHeartbeats 4000000 in
set_option maxRecDepth 100000 in
theorem whole_start {p : Program} {e : Env} {s : State} {m : MethodId} {below : List Frame} {meth : Method} {c : Code} (l : Launch) {b L : Nat} {xs : Nat → Int32} (hL : L ≤ 3584) (C0 : lw_At p s m meth c b L xs) : W p l e room_1 s m #[Value.ref b] below meth c s.heap [] 0 0 (lw_Z below #[Value.ref b] s) (entryFrame m ([Value.ref b] : List Value).toArray 4) := by
  obtain ⟨hx, hb, hr, hml, hown, hts, hX, hbl, hlocks, hgv⟩ := C0
  have hts' : ∀ w ∈ xgw, w.before #[Value.ref b] s = true := fun w hw => hts w (List.mem_filter.mp hw).1
  obtain ⟨D, cA, hK⟩ := x_K0 hts'
  obtain ⟨E, hE0, hO⟩ := xO_start hts hgv
  subst hE0
  have hG : xG D cA s.heap.size E L xs s := ⟨hK, fun i own idx y host h => va_Nw.of rfl (hts _ (List.mem_of_getElem? h)), hbl, hX, Nat.le_refl _, hO⟩
  have e0 : xmc 0 = code := rfl
  have C : xCx p s m #[Value.ref (E 0)] meth c D cA s.heap.size E L xs 0 := ⟨hx, by rw [e0]; exact hb, hml, hown, fun h => absurd h (by decide), hts', hG⟩
  obtain ⟨i2, l2, r2, n, hrun⟩ := law_main (xs := xs) hL _ 0 _ _ _ (Nat.le_refl _) (by decide) (by decide) good_N lw_0
  have hd : 20 ≤ room_1.frames ∧ 64 * 20 ≤ room_1.locals := by decide
  have hz : xslots 124 ≤ 7302250 := by decide +kernel
  have hroom : 124 - 0 ≤ room_1.cells ∧ xslots 124 - xslots 0 ≤ room_1.slots := ⟨by decide, Nat.le_trans (Nat.sub_le _ _) hz⟩
  have hN : xhN.1 = 124 := rfl
  have hR : xhr.1 = 124 := xc1_at.2
  have kret : ∀ (pc1 : Nat) (ls1 : Array Slot) (H1 : Heap) (locs1 : List Loc) (q : xQ) (st1 : List Value), xins 0 pc1 = some q → xrt 0 q st1 (some (.int 1)) → xRep D cA s.heap.size E (124, i2, l2, r2) H1 → va_S (fun q => s.heap.size ≤ q) s.heap H1 locs1 → W p l e room_1 s m #[Value.ref (E 0)] below meth c H1 locs1 (124 - 0) (xslots 124 - xslots 0) (lw_Z below #[Value.ref (E 0)] s) (F0 m pc1 ls1 (st1.map (xtr s.heap.size E))) := by
    intro pc1 ls1 H1 locs1 q st1 hq hrt hrep1 hS1
    obtain ⟨hdg, -⟩ := xok_s hq
    rw [e0] at hdg
    rcases hrt with ⟨e1, e2, e3, e4, e5⟩ | ⟨x, e1, e2, e3, e4, e5⟩ | ⟨x, e1, e2, e3, e4, e5⟩ | ⟨x, CC, e1, e2, e3, e4, e5⟩
    · cases e4
    · cases e4
      subst e3
      rw [e1, e2] at hdg
      refine va_forget (fun q hq => hS1.2.2 q hq) ?_
      refine W.widen (k := 600000) (n := 7302250) (by decide) (Nat.le_trans (Nat.sub_le _ _) hz) ?_
      exact lw_ret hx hb hr hlocks hdg
    · cases e4
    · cases e4
  have kk : ∀ H1 locs1 ls1, xRep D cA s.heap.size E xhr H1 → va_S (fun q => s.heap.size ≤ q) s.heap H1 locs1 → xL s.heap.size E ls1 (xml 0) [.retAddr 0, .ref 0, .ref 86, .int 0] → W p l e room_1 s m #[Value.ref (E 0)] below meth c H1 locs1 (xhr.1 - 0) (xslots xhr.1 - xslots 0) (lw_Z below #[Value.ref (E 0)] s) (F0 m 18 ls1 (([] : List Value).map (xtr s.heap.size E))) := by
    intro H1 locs1 ls1 hrep hS hl
    have hrep2 : xRep D cA s.heap.size E xhN H1 := xrep_agr (hN.trans hR.symm) (fun q hq => xag_all q (by rw [hR] at hq; exact hq)) hrep
    rw [hR]
    exact x_sound L xs n 20 0 18 [.retAddr 0, .ref 0, .ref 86, .int 0] [] xhN (124, i2, l2, r2) (some (.int 1)) hrun p l e room_1 s m #[Value.ref (E 0)] below meth c H1 locs1 (lw_Z below #[Value.ref (E 0)] s) ls1 D cA s.heap.size E 0 C hd hrep2 hl hS (Nat.zero_le _) hroom kret
  have hgo := x_goN (n := 4000) C hd (h1 := xhr) (n0 := 0) (by rw [hR]; exact hroom) kk 10 0 (xent [.retAddr 0] 4) [] xh0 s.heap [] _ (xgoN_off 10 xc1_at.1) ⟨fun _ => rfl, fun k q h => by simp [xw, xh0] at h⟩ (xL_entry (as := [.retAddr 0]) (n := 4) (by decide)) va_S.rf (Nat.zero_le _)
  rw [lg_entry_eq]
  exact hgo.2
-- ===== YOUR PART ENDS =====
set_option maxHeartbeats 4000000 in
theorem lw_walk (l : Launch) (b : Addr) (xs : List Int32) : MetFree l x (headSpec (Jvm.Cond.code x code maxLocals ret :: tables_1) room_1) (lw_P b xs) (fun _ _ _ _ _ => True) lw_Q := by
  refine MetFree.of_bodyS (code := code) (maxLocals := maxLocals) (ret := ret) (by decide) ?_ ?_
  · intro args s m h hn
    obtain ⟨meth, c, h1, h2, h3, h4, h5, h6, -, -⟩ := Cond.code_spec hn (atoms_spec (ws := Jvm.Cond.code x code maxLocals ret :: tables_1) h _ List.mem_cons_self)
    exact ⟨meth, c, h1, h2, h3, h4, h5, h6⟩
  · intro p e s m args below meth c s₁ B hml0 hP _
    obtain ⟨rfl, hx, hbd, hgv⟩ := hP
    obtain ⟨scr, harrAt, hlist, hof, hsmall⟩ := hx
    obtain ⟨hcb, hkn, -, -⟩ := State.arrayAt?_spec harrAt
    have hown : s.vm.findClass R_law = some m.cls := findClass_of_methodNamed B.named
    have hts0 : ∀ c ∈ (Jvm.Cond.code x code maxLocals ret :: tables_1), c.before #[Value.ref b] s = true := atoms_spec (ws := Jvm.Cond.code x code maxLocals ret :: tables_1) B.pre
    have hts : ∀ w ∈ lw_tbl, w.before #[Value.ref b] s = true := k2_hts_sels lw_privs (fun w hw => hts0 w (List.mem_cons_of_mem _ hw)) lw_privs_ok
    have hml : c.maxLocals = 4 := B.maxLocals_eq (hts0 _ List.mem_cons_self)
    have X₀ : Stand p l e room_1 s m #[Value.ref b] below meth c s₁ [] 0 0 := Stand.of_body B
    have hh0 : s₁.heap = s.heap := by rw [B.state]; rfl
    have hsz : scr.slots.size = xs.length := by rw [← Array.length_toList, hlist, List.length_map]
    have hval : ∀ j : Nat, j < xs.length → scr.slots[j]? = some (.int (xs.getD j 0)) := fun j hj => by
      rw [← Array.getElem?_toList, hlist]
      simp [hj]
    have hbl : b < s.heap.size := (Array.getElem?_eq_some_iff.mp hcb).1
    have hX : va_X b xs.length (fun j => xs.getD j 0) s s.heap := ⟨scr, hcb, hof, hkn, hsz, hval⟩
    have K : W p l e room_1 s m #[Value.ref b] below meth c s₁.heap [] 0 0 (lw_Z below #[Value.ref b] s) (entryFrame m ([Value.ref b] : List Value).toArray 4) := by
      rw [hh0]
      exact whole_start l hbd ⟨B.exec, B.bytes, B.returns, hml, hown, hts, hX, hbl, B.notSynchronized, hgv⟩
    obtain ⟨t, a1, o, b1, b2, b3⟩ := K s₁ rfl X₀
    exact ⟨t, o, a1, b1, b2, b3⟩
theorem lw_pre_spec {args : Array Value} {s : State} (h : (Jvm.Cond.and given_1 narrow_1).before args s = true) (hr : rest_1_c.before args s = true) : ∃ (b : Addr) (xs : List Int32), lw_P b xs args s := by
  have hs := flat_of_before _ h
  have hq := flat_of_before _ hr
  have hc : (Cond.count 1).before args s = true := hs _ (by decide +kernel)
  have harr : (Cond.arrayOf (.arg 0) .int).before args s = true := hs _ (by decide +kernel)
  have hle : (Cond.le (.length (.arg 0)) (.int 3584)).before args s = true := hs _ (by decide +kernel)
  have hlen : (Cond.isInt (.length (.arg 0))).before args s = true := hq _ (by decide +kernel)
  have hall : (Cond.all (.arg 0) (.isInt (.elem (.arg 0) (.index 0)))).before args s = true := hq _ (by decide +kernel)
  obtain ⟨b, xs, hb, hx⟩ := State.ints_of_pre rfl harr hlen hall
  have hsm : xs.length < 2 ^ 31 := hx.choose_spec.2.2.2
  have hev : (Term.length (.arg 0)).eval args s none [] s = some (.int xs.length.toInt32) := hx.length_eval hb
  have hv := Cond.le_ints hev (show (Term.int 3584).eval args s none [] s = some (.int 3584) from rfl)
  have hd : xs.length.toInt32 ≤ 3584 := by
    simpa [Cond.before, Cond.holds, hv] using hle
  have hN : xs.length ≤ 3584 := (Int32.ofNat_le_ofNat hsm (by decide)).mp (show Int32.ofNat xs.length ≤ Int32.ofNat 3584 from hd)
  exact ⟨b, xs, Cond.one_arg hc (show args[0]? = some (.ref b) from hb), hx, hN, h⟩
theorem lw_comes (l : Launch) : Comes l x (Jvm.Cond.code x code maxLocals ret :: tables_1) room_1 (fun tb e args s => Calls_1 tb e args s ∧ rest_1 tb e args s ∧ Pre_1 tb e args s)
    (fun _ _ args s o t => lw_Q args s o t) := by
  intro p e ha hc hk s m args below hf hfit hheap happ hpre
  obtain ⟨b, xs, hP⟩ := lw_pre_spec hpre.2.2 hpre.2.1
  obtain ⟨k, o, h1, h2, h3, hQ⟩ := lw_walk l b xs p e ha hc hk s m args below hf ((Spec.applies_iff_loose hf).mp happ).1 hP trivial
  exact ⟨k, o, h1, h2, h3, hQ⟩
theorem lw_frame {s t : State} {o : Outcome} {args : Array Value} (h : Framed s o t [] 600000 7302250) :
    Framed s o t (fieldLocs frame_1_writes args s ++ arrayLocs frame_1_arrays args s ++ staticLocs frame_1_statics s) 600000 7302250 := h
theorem lw_limb (L : Cond) (hL : ∀ (args : Array Value) (s t : State), L.after args s (.returned (some (.int 1))) t = true) :
    ArmFor flags0 classFile x code maxLocals ret World_1 tables_1 room_1 Calls_1 rest_1 Pre_1
      (fun tb e a s o t => postC L tb e a s o t ∧ Framed s o t (fieldLocs frame_1_writes a s ++ arrayLocs frame_1_arrays a s ++ staticLocs frame_1_statics s) 600000 7302250) := by
  intro l _ _ _ p e ha hc hk s m args below hf hfit hheap happ hpre
  obtain ⟨k, o, h1, h2, h3, rfl, hF⟩ := lw_comes l p e ha hc hk s m args below hf hfit hheap happ hpre
  exact ⟨k, _, h1, h2, h3, hL args s _, lw_frame hF⟩
theorem i_vc : Claimed_1_1 ∧ Claimed_1_2 := ⟨lw_limb limb_1_1 (fun args s t => by simp [limb_1_1, Cond.after, Cond.holds, Cond.value]), lw_limb limb_1_2 (fun args s t => Cond.after_iff.mpr (by
  first | (rw [show limb_1_2 = Cond.eq .result (.int 1) from rfl, Cond.eq_ints (x := 1) (y := 1) rfl rfl]; simp; done) | (simp [limb_1_2, Cond.value, Term.eval]; done)))⟩
