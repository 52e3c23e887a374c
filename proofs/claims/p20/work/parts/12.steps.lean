section XSS
variable {p : Program} {l : Launch} {e : Env} {R : Room} {s : State} {m : MethodId} {args : Array Value} {below : List Frame} {meth : Method} {c : Code} {H : Heap} {locs : List Loc} {Q : State → Prop} {pc : Nat} {ls : Array Slot} {D : va_G} {cA : FieldType → ClassId} {B0 : Nat} {E : Nat → Nat} {L : Nat} {xs : Nat → Int32} {j : Nat}
/-- the field of an object, read or stored -/
theorem x_fget (C : xCx p s m args meth c D cA B0 E L xs j) {cells slots index a b q w : Nat} {rest : List Value} {h : xH} (ha : a < 13) (hb2 : b < xnf a) (hw : lw_tbl[w]? = some (.fieldLink (xmy j).cls index (xT a b).1 (xT a b).2.1 (xT a b).2.2.1)) (hrep : xRep D cA B0 E h H) (hq : q < h.1) (hsh : xsh q = some (.inl a)) (hdg : decode (xmc j) pc = .ok (.getfield index, 3))
    (kk : W p l e R s m args below meth c H locs cells slots Q (F0 m (pc + 3) ls (xtr B0 E (xval h (xty a b) q b) :: rest))) : W p l e R s m args below meth c H locs cells slots Q (F0 m pc ls (.ref (B0 + q) :: rest)) := by
  obtain ⟨hx, hb, hml, hown, hin, hts, hK, hN, hE, hX, hB, hO⟩ := C
  have he := xw_get (B0 := B0) (E := E) (cA := cA) hq
  rw [xce_obj hsh] at he
  exact va_get (D := D) (ci := a) (C := xcn a) (T := xT a) (N := xnf a) hx hb hts (xcl_in' ha) hown hK hrep.2 q he (xcl_get ha) b hb2 (xword hts hw rfl) (fun _ h9 => h9) (by simp [hb2]) hdg kk
theorem x_fput (C : xCx p s m args meth c D cA B0 E L xs j) {cells slots index a b q w : Nat} {v : Value} {rest : List Value} {h h' : xH} (ha : a < 13) (hb2 : b < xnf a) (hw : lw_tbl[w]? = some (.fieldLink (xmy j).cls index (xT a b).1 (xT a b).2.1 (xT a b).2.2.1)) (hfin : (xT a b).2.2.2 = false ∨ ((xmy j).name = "<init>" ∧ (xT a b).1 = (xmy j).cls)) (hrep : xRep D cA B0 E h H) (hS : va_S (fun q => B0 ≤ q) s.heap H locs) (hq : q < h.1) (hsh : xsh q = some (.inl a)) (hput : xput h (xty a b) q b v = some h') (hdg : decode (xmc j) pc = .ok (.putfield index, 3))
    (kk : ∀ H' locs', xRep D cA B0 E h' H' → va_S (fun q => B0 ≤ q) s.heap H' locs' → W p l e R s m args below meth c H' locs' cells slots Q (F0 m (pc + 3) ls rest)) : W p l e R s m args below meth c H locs cells slots Q (F0 m pc ls (xtr B0 E v :: .ref (B0 + q) :: rest)) := by
  have C0 := C
  obtain ⟨hx, hb, hml, hown, hin, hts, hK, hN, hE, hX, hB, hO⟩ := C
  obtain ⟨p1, p2, p3, p4, p5, p6⟩ := xput_s (B0 := B0) (E := E) hput
  have he := xw_get (B0 := B0) (E := E) (cA := cA) hq
  rw [xce_obj hsh] at he
  have hce : xce B0 E cA h' q = .inr (a, ((List.range (xnf a)).map fun k => xtr B0 E (xval h (xty a k) q k)).set b (xtr B0 E v)) := by
    rw [xce_obj hsh]
    congr 2
    apply List.ext_getElem?
    intro k
    by_cases hk : k < xnf a
    · by_cases e : k = b
      · subst e
        rw [List.getElem?_set_self (by simpa using hk)]
        simp [hk, p3]
      · rw [List.getElem?_set_ne (fun z => e z.symm)]
        simp [hk, p4 k e]
    · rw [List.getElem?_eq_none (by simp; omega), List.getElem?_eq_none (by simp; omega)]
  have fin : ∀ (H1 : Heap) (locs1 : List Loc), H1.size = H.size → va_P D xcl ((xw B0 E cA h).set q (B0 + q, .inr (a, ((List.range (xnf a)).map fun k => xtr B0 E (xval h (xty a k) q k)).set b (xtr B0 E v)))) H1 → va_S (fun q => B0 ≤ q) s.heap H1 locs1 → W p l e R s m args below meth c H1 locs1 cells slots Q (F0 m (pc + 3) ls rest) := fun H1 locs1 z hP hS1 => kk H1 locs1 (xrep_put (fun hlt => by rw [z, p1]; exact hrep.1 (by rw [← p1]; exact hlt)) p1 p2 hce hP) hS1
  -- the kit's row doesn't say that the heap keeps its size: by its own rows
  have hl : b < ((List.range (xnf a)).map fun k => xtr B0 E (xval h (xty a k) q k)).length := by simpa using hb2
  have hc := xcl_get ha
  have hap := va_apart (own := (xmy j).cls) hts (xcl_in' ha) (xty a) (xcl_ty a ha) (xcl_nm a ha) hK hc
  obtain ⟨r, h1, cell, q1, q2, q3, q4⟩ := hrep.2 q _ he
  have hr : r = (xcn a, xT a, xnf a) := Option.some.inj (h1.symm.trans hc)
  subst hr
  obtain ⟨hSl, hfc, kC, hkC, hkind⟩ := hK.1 a _ hc
  obtain ⟨cf, kf, fi, f, hi, hsl⟩ := hSl b hb2
  have hst := (u_facts hfc hkC (u_lays hts (xcl_in' ha) hb2) hi).1
  have hlay := hts _ (xcl_in' ha _ (u_in_lay hb2))
  have hwl := xword hts hw rfl
  have hlink : (Cond.fieldLink (xmy j).cls index (xT a b).1 (xT a b).2.1 (xT a b).2.2.1).before args s = true := hwl
  cases hf : (xT a b).2.2.2 with
  | false =>
    unfold u_lay at hlay
    rw [if_neg (by rw [hf]; decide)] at hlay
    have h6 := u_store hfc hkC hkind hlay hi (xcl_ty a ha b hb2) p5 p6
    refine W.putK hx hb (f := f) ⟨hown, hlink, ⟨_, _, _, hi⟩, hst⟩ (by rw [q2]; exact h6) q1 q3 (by rw [hsl]; exact k2_hasslot (q4 b hb2)) rfl rfl hdg fun H' e1 e2 e3 => ?_
    rw [hsl] at e1 ⊢
    exact fin H' _ e2 (hrep.2.set xw_D he ⟨_, hc, t_OB.to (V := updV (vp_V _) b (xtr B0 E v)) ⟨_, e1, q2, q3, t_set q4 hap hb2 _⟩ (fun i _ => vp_updV_set hl _ i)⟩ e3) (hS.put e2 e3 (Nat.le_add_right _ _))
  | true =>
    have hfin2 := hfin.resolve_left (by rw [hf]; decide)
    unfold u_lay at hlay
    rw [if_pos hf] at hlay
    have hcf : m.cls = cf := by
      obtain ⟨_, _, c', _, _, _, -, -, hf', -, -, -, hown2, -⟩ := Cond.laysFinal_spec hlay
      have e1 : c' = cf := by have := hi.symm.trans hf'; simp at this; exact this.1.symm
      rw [hfin2.2] at hown2
      rw [← e1]; exact Option.some.inj (hown.symm.trans hown2)
    have h6 := u_fits hfc hkC hkind (Or.inr hlay) hi (xcl_ty a ha b hb2) p5 p6
    refine W.putFinK hx hb hown hlink hi hst hcf (hin hfin2.1) (by rw [q2]; exact h6) q1 q3 (by rw [hsl]; exact k2_hasslot (q4 b hb2)) rfl rfl hdg fun H' e1 e2 e3 => ?_
    rw [hsl] at e1 ⊢
    exact fin H' _ e2 (hrep.2.set xw_D he ⟨_, hc, t_OB.to (V := updV (vp_V _) b (xtr B0 E v)) ⟨_, e1, q2, q3, t_set q4 hap hb2 _⟩ (fun i _ => vp_updV_set hl _ i)⟩ e3) (hS.put e2 e3 (Nat.le_add_right _ _))
/-- array stores: the kit's rows, with the heap's size -/
theorem x_ast {H1 : Heap} {h : xH} {q n k : Nat} {t : FieldType} {x : Int32} (hrep : xRep D cA B0 E h H) (hq : q < h.1) (hsh : xsh q = some (.inr (t, n))) (ht : xisJ t = false) (e : H1[B0 + q]? = some (vp_cell (cA t) (n, .inl (upd (h.2.1 q) k x)))) (z : H1.size = H.size) (oq : ∀ a, a ≠ B0 + q → H1[a]? = H[a]?) : xRep D cA B0 E (xsetI h q k x) H1 := by
  have he := xw_get (B0 := B0) (E := E) (cA := cA) hq
  refine xrep_put (h := h) (q := q) (fun hlt => by rw [z]; exact hrep.1 hlt) rfl (fun i hi => xsetI_same hi) (ee := .inl (cA t, n, .inl (upd (h.2.1 q) k x))) ?_ (va_P.set (e := .inl (cA t, n, .inl (upd (h.2.1 q) k x))) hrep.2 xw_D he e oq)
  rw [xce_arr hsh, ht]
  simp [xsetI, va_up]
theorem x_astL {H1 : Heap} {h : xH} {q n k : Nat} {x : Int64} (hrep : xRep D cA B0 E h H) (hq : q < h.1) (hsh : xsh q = some (.inr (.long, n))) (e : H1[B0 + q]? = some (vp_cell (cA .long) (n, .inr (.inl (vp_updL (h.2.2.1 q) k x))))) (z : H1.size = H.size) (oq : ∀ a, a ≠ B0 + q → H1[a]? = H[a]?) : xRep D cA B0 E (xsetL h q k x) H1 := by
  have he := xw_get (B0 := B0) (E := E) (cA := cA) hq
  refine xrep_put (h := h) (q := q) (fun hlt => by rw [z]; exact hrep.1 hlt) rfl (fun i hi => xsetL_same hi) (ee := .inl (cA .long, n, .inr (.inl (vp_updL (h.2.2.1 q) k x)))) ?_ (va_P.set (e := .inl (cA .long, n, .inr (.inl (vp_updL (h.2.2.1 q) k x)))) hrep.2 xw_D he e oq)
  rw [xce_arr hsh]
  simp [xsetL, va_up, xisJ]
theorem x_cellI {h : xH} {q n : Nat} {t : FieldType} (hrep : xRep D cA B0 E h H) (hq : q < h.1) (hsh : xsh q = some (.inr (t, n))) (ht : xisJ t = false) : H[B0 + q]? = some (vp_cell (cA t) (n, .inl (h.2.1 q))) := by
  have he := xw_get (B0 := B0) (E := E) (cA := cA) hq
  rw [xce_arr hsh, ht] at he
  exact hrep.2 q _ he
theorem x_cellL {h : xH} {q n : Nat} (hrep : xRep D cA B0 E h H) (hq : q < h.1) (hsh : xsh q = some (.inr (.long, n))) : H[B0 + q]? = some (vp_cell (cA .long) (n, .inr (.inl (h.2.2.1 q)))) := by
  have he := xw_get (B0 := B0) (E := E) (cA := cA) hq
  rw [xce_arr hsh] at he
  exact hrep.2 q _ he
theorem x_upd_i (f : Nat → Int32) (k : Nat) (x : Int32) : updV (fun j => .int (f j)) k (.int x) = fun j => .int (upd f k x j) := by
  funext q
  by_cases h : q = k <;> simp [updV, upd, h]
theorem x_upd_l (f : Nat → Int64) (k : Nat) (x : Int64) : updV (fun j => .long (f j)) k (.long x) = fun j => .long (vp_updL f k x j) := by
  funext q
  by_cases h : q = k <;> simp [updV, vp_updL, h]
end XSS
