/-! ONE STEP of the abstract machine is the machine's -/
def xCx (p : Program) (s : State) (m : MethodId) (args : Array Value) (meth : Method) (c : Code) (D : va_G) (cA : FieldType → ClassId) (B0 : Nat) (E : Nat → Nat) (L : Nat) (xs : Nat → Int32) (j : Nat) : Prop :=
  p.tables.exec = Jvm.exec ∧ c.code = xmc j ∧ c.maxLocals = xml j ∧ s.vm.findClass (xmy j).cls = some m.cls ∧ ((xmy j).name = "<init>" → meth.name = "<init>") ∧ (∀ w ∈ xgw, w.before args s = true) ∧ xG D cA B0 E L xs s
section XST
variable {p : Program} {l : Launch} {e : Env} {R : Room} {s : State} {m : MethodId} {args : Array Value} {below : List Frame} {meth : Method} {c : Code} {H : Heap} {locs : List Loc} {cells slots : Nat} {Q : State → Prop} {pc : Nat} {ls : Array Slot} {rest : List Value} {D : va_G} {cA : FieldType → ClassId} {B0 : Nat} {E : Nat → Nat} {L : Nat} {xs : Nat → Int32} {j : Nat} {h : xH}
/-- an object's cell -/
theorem xce_obj {ci q : Nat} (hsh : xsh q = some (.inl ci)) : xce B0 E cA h q = .inr (ci, (List.range (xnf ci)).map fun k => xtr B0 E (xval h (xty ci k) q k)) := by unfold xce; rw [hsh]
theorem xce_arr {q : Nat} {t : FieldType} {n : Nat} (hsh : xsh q = some (.inr (t, n))) : xce B0 E cA h q = .inl (cA t, n, if xisJ t then .inr (.inl (h.2.2.1 q)) else .inl (h.2.1 q)) := by unfold xce; rw [hsh]
theorem xrep_put {H1 : Heap} {h' : xH} {q : Nat} {ee : va_E} (hz : h'.1 < xN → H1.size = B0 + h'.1) (hn : h'.1 = h.1) (ho : ∀ k, k ≠ q → xsame h h' k) (he : xce B0 E cA h' q = ee) (hP : va_P D xcl ((xw B0 E cA h).set q (B0 + q, ee)) H1) : xRep D cA B0 E h' H1 := ⟨hz, by rw [xw_set hn he (fun k hk => xce_same (ho k hk))] at hP; exact hP⟩
/-- a new object -/
theorem x_new (C : xCx p s m args meth c D cA B0 E L xs j) {index a w : Nat} (ha : a < 13) (hw : lw_tbl[w]? = some (.classLink (xmy j).cls index (xcn a))) (hrep : xRep D cA B0 E h H) (hS : va_S (fun q => B0 ≤ q) s.heap H locs) (hsh : xsh h.1 = some (.inl a)) (hcells : cells + 1 ≤ R.cells) (hslots : slots + xnf a ≤ R.slots) (hdg : decode (xmc j) pc = .ok (.new index, 3))
    (kk : ∀ H1, xRep D cA B0 E (xnew h) H1 → va_S (fun q => B0 ≤ q) s.heap H1 locs → W p l e R s m args below meth c H1 locs (cells + 1) (slots + xnf a) Q (F0 m (pc + 3) ls (.ref (B0 + h.1) :: rest))) : W p l e R s m args below meth c H locs cells slots Q (F0 m pc ls rest) := by
  obtain ⟨hx, hb, hml, hown, hin, hts, hK, hN, hE, hX, hB, hO⟩ := C
  obtain ⟨hz, hP⟩ := hrep
  have hz := hz (xsh_lt hsh)
  have hKn := hK.1 a _ (xcl_get ha)
  refine W.newcK hx hb hown (xword hts hw rfl) (xword hts (xcl_ins a ha) rfl) (xword hts (xcl_ini a ha) rfl) rfl hdg hcells hslots hKn.2.1 hz fun H1 kC hkC e1 z1 o1 => ?_
  refine kk H1 ⟨fun _ => by rw [z1]; rfl, fun k q hq => ?_⟩ ⟨Nat.le_trans hS.1 (by omega), fun q h1 h2 => (o1 q (by have := hS.1; omega)).trans (hS.2.1 q h1 h2), hS.2.2⟩
  obtain ⟨hk, rfl⟩ := xw_of hq
  by_cases e : k = h.1
  · subst e
    rw [xce_obj hsh]
    refine ⟨_, xcl_get ha, (u_born (xty a) hts (xcl_in' ha) hKn hkC e1 (xcl_ty a ha)).to (fun i hi => ?_)⟩
    have e2 : vp_V ((List.range (xnf a)).map fun k => xtr B0 E (xval (xnew h) (xty a k) h.1 k)) i = xtr B0 E (xval (xnew h) (xty a i) h.1 i) := by simp [vp_V, hi]
    show _ = vp_V _ i
    rw [e2]
    have g1 : (xnew h).2.1 h.1 i = 0 := by simp [xnew, va_up]
    have g2 : (xnew h).2.2.1 h.1 i = 0 := by simp [xnew, va_up]
    have g3 : (xnew h).2.2.2 h.1 i = 0 := by simp [xnew, va_up]
    have hd := xcl_df a ha i hi
    unfold xval
    cases ht : xty a i <;> rw [ht] at hd <;> first | (cases hd; done) | (simp only [g1, g2, g3]; rfl)
  · rw [xce_same (xnew_same e)]
    have hk2 : k < h.1 := by have : k < h.1 + 1 := hk; omega
    exact (hP k _ (xw_get hk2)).kept (o1 _ (by show B0 + k < _; omega))
/-- a new array -/
theorem x_newa (C : xCx p s m args meth c D cA B0 E L xs j) {at0 : ArrayType} {t : FieldType} {N : Nat} {n : Int32} (ht : xatk at0 = some t) (hrep : xRep D cA B0 E h H) (hS : va_S (fun q => B0 ≤ q) s.heap H locs) (hsh : xsh h.1 = some (.inr (t, N))) (hn : ¬ n < 0) (hN : n.toNatClampNeg = N) (hb8 : N ≤ 65536) (hcells : cells + 1 ≤ R.cells) (hslots : slots + N ≤ R.slots) (hdg : decode (xmc j) pc = .ok (.newarray at0, 2))
    (kk : ∀ H1, xRep D cA B0 E (xnew h) H1 → va_S (fun q => B0 ≤ q) s.heap H1 locs → W p l e R s m args below meth c H1 locs (cells + 1) (slots + N) Q (F0 m (pc + 2) ls (.ref (B0 + h.1) :: rest))) : W p l e R s m args below meth c H locs cells slots Q (F0 m pc ls (.int n :: rest)) := by
  obtain ⟨hx, hb, hml, hown, hin, hts, hK, hNe, hE, hX, hB, hO⟩ := C
  obtain ⟨hz, hP⟩ := hrep
  have hz := hz (xsh_lt hsh)
  have hty : newarray.typeOf at0 = t := by cases at0 <;> simp [xatk] at ht <;> subst ht <;> rfl
  have harr : (Cond.arrayClass (newarray.typeOf at0)).before args s = true := by
    rw [hty]
    have hm : (Cond.arrayClass t) ∈ xgw := by
      cases at0 <;> simp [xatk] at ht <;> subst ht
      · exact List.mem_filter.mpr ⟨List.mem_of_getElem? xpA_z, rfl⟩
      · exact List.mem_filter.mpr ⟨List.mem_of_getElem? xpA_b, rfl⟩
      · exact List.mem_filter.mpr ⟨List.mem_of_getElem? xpA_i, rfl⟩
      · exact List.mem_filter.mpr ⟨List.mem_of_getElem? xpA_j, rfl⟩
    exact hts _ hm
  have hbytes : N * componentBytes (newarray.typeOf at0) ≤ 536870912 := by
    cases at0 <;> simp [xatk] at ht <;> simp [newarray.typeOf, componentBytes] <;> omega
  refine va_newaK hx hb harr rfl hdg rfl hn hN hbytes hcells hslots hz fun H1 cA' e1 z1 o1 hAr hNm => ?_
  have hcA : cA' = cA t := by
    rw [hty] at hNm
    have hR : ∀ k : Nat, (xtys cA)[k]? = some (cA t, t) → cA' = cA t := by
      intro k hk
      have h2 := (hK.2 k _ hk).2
      cases at0 <;> simp [xatk] at ht <;> subst ht <;> exact Option.some.inj (hNm.symm.trans h2)
    cases at0 <;> simp [xatk] at ht <;> subst ht
    · exact hR 3 rfl
    · exact hR 2 rfl
    · exact hR 0 rfl
    · exact hR 1 rfl
  subst hcA
  refine kk H1 ⟨fun _ => by rw [z1]; rfl, fun k q hq => ?_⟩ ⟨Nat.le_trans hS.1 (by omega), fun q h1 h2 => (o1 q (by have := hS.1; omega)).trans (hS.2.1 q h1 h2), hS.2.2⟩
  obtain ⟨hk, rfl⟩ := xw_of hq
  by_cases e : k = h.1
  · subst e
    rw [xce_arr hsh]
    show H1[B0 + h.1]? = some (vp_cell _ _)
    rw [e1, hty]
    have g1 : (xnew h).2.1 h.1 = fun _ => 0 := by simp [xnew, va_up]
    have g2 : (xnew h).2.2.1 h.1 = fun _ => 0 := by simp [xnew, va_up]
    rw [g1, g2]
    cases at0 <;> simp [xatk] at ht <;> subst ht <;> rfl
  · rw [xce_same (xnew_same e)]
    have hk2 : k < h.1 := by have : k < h.1 + 1 := hk; omega
    exact (hP k _ (xw_get hk2)).kept (o1 _ (by show B0 + k < _; omega))
end XST
