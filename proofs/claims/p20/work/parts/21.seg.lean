/-! rules of runs over an unread heap -/
def aGd (R : Nat → Nat → Nat) : Prop := ∀ c k d, aRef c k = [d] → aIsRb c k = true → R c k = d + 1
theorem gd_of {n : Nat} {I : Nat → Nat → Int32} {J : Nat → Nat → Int64} {R : Nat → Nat → Nat} (hg : aGood (n, I, J, R)) : aGd R := by
  intro c k d hd hr
  obtain ⟨e, he, hR⟩ := hg.2.2 c k hr
  rw [hd] at he
  rw [List.mem_singleton.mp he] at hR
  exact hR
section SEG
variable {L : Nat} {xs : Nat → Int32} {d j pc : Nat} {lv st r : List Value} {h h' : xH} {v : Option Value}
theorem ev_gf {k A B w c t X : Nat} (hq : xins j pc = some (.getfield k, 3, A, B, w)) (hst : st = .ref c :: r) (ho : ∀ z : Option xR, xobj h c A z = z) (hv : xval h (xty A B) c B = xref X) (hX : X = t + 1) (hk : xEv L xs d j (pc + 3) lv (.ref t :: r) h v h') : xEv L xs d j pc lv st h v h' := by
  subst hst
  subst hX
  refine ev_step hq ?_ hk
  show x1 3 3 (xobj h c A (xgo (pc + 3) lv (xval h (xty A B) c B :: r) h)) = _
  rw [ho, hv]
  rfl
theorem ev_ild {a b w c n : Nat} {i : Int32} (hq : xins j pc = some (.iaload, 1, a, b, w)) (hst : st = .int i :: .ref c :: r) (ho : ∀ f : FieldType → Nat → Option xR, xarr h c f = f .int n) (h0 : 0 ≤ i.toInt) (h1 : i.toInt < n) (hk : xEv L xs d j (pc + 1) lv (.int (h.2.1 c i.toNatClampNeg) :: r) h v h') : xEv L xs d j pc lv st h v h' := by
  subst hst
  refine ev_step hq ?_ hk
  show x1 1 1 (xarr h c fun t n => bif xisI t then xin i n (xgo (pc + 1) lv (.int (h.2.1 c i.toNatClampNeg) :: r) h) else none) = _
  rw [ho]
  show x1 1 1 (xin i n (xgo (pc + 1) lv (.int (h.2.1 c i.toNatClampNeg) :: r) h)) = _
  rw [xin_ok h0 h1]
  rfl
theorem ev_bld {a b w c n : Nat} {t : FieldType} {i : Int32} (hq : xins j pc = some (.baload, 1, a, b, w)) (hst : st = .int i :: .ref c :: r) (ho : ∀ f : FieldType → Nat → Option xR, xarr h c f = f t n) (ht : (xisB t || xisZ t) = true) (h0 : 0 ≤ i.toInt) (h1 : i.toInt < n) (hk : xEv L xs d j (pc + 1) lv (.int (h.2.1 c i.toNatClampNeg) :: r) h v h') : xEv L xs d j pc lv st h v h' := by
  subst hst
  refine ev_step hq ?_ hk
  show x1 1 1 (xarr h c fun t n => bif xisB t || xisZ t then xin i n (xgo (pc + 1) lv (.int (h.2.1 c i.toNatClampNeg) :: r) h) else none) = _
  rw [ho, ht]
  show x1 1 1 (xin i n (xgo (pc + 1) lv (.int (h.2.1 c i.toNatClampNeg) :: r) h)) = _
  rw [xin_ok h0 h1]
  rfl
theorem ev_lld {a b w c n : Nat} {i : Int32} (hq : xins j pc = some (.laload, 1, a, b, w)) (hst : st = .int i :: .ref c :: r) (ho : ∀ f : FieldType → Nat → Option xR, xarr h c f = f .long n) (h0 : 0 ≤ i.toInt) (h1 : i.toInt < n) (hk : xEv L xs d j (pc + 1) lv (.long (h.2.2.1 c i.toNatClampNeg) :: r) h v h') : xEv L xs d j pc lv st h v h' := by
  subst hst
  refine ev_step hq ?_ hk
  show x1 1 1 (xarr h c fun t n => bif xisJ t then xin i n (xgo (pc + 1) lv (.long (h.2.2.1 c i.toNatClampNeg) :: r) h) else none) = _
  rw [ho]
  show x1 1 1 (xin i n (xgo (pc + 1) lv (.long (h.2.2.1 c i.toNatClampNeg) :: r) h)) = _
  rw [xin_ok h0 h1]
  rfl
theorem ev_ist {a b w c n : Nat} {i x : Int32} (hq : xins j pc = some (.iastore, 1, a, b, w)) (hst : st = .int x :: .int i :: .ref c :: r) (ho : ∀ f : FieldType → Nat → Option xR, xarr h c f = f .int n) (h0 : 0 ≤ i.toInt) (h1 : i.toInt < n) (hk : xEv L xs d j (pc + 1) lv r (xsetI h c i.toNatClampNeg x) v h') : xEv L xs d j pc lv st h v h' := by
  subst hst
  refine ev_step hq ?_ hk
  show x1 1 1 (xarr h c fun t n => bif xisI t then xin i n (xgo (pc + 1) lv r (xsetI h c i.toNatClampNeg x)) else none) = _
  rw [ho]
  show x1 1 1 (xin i n (xgo (pc + 1) lv r (xsetI h c i.toNatClampNeg x))) = _
  rw [xin_ok h0 h1]
  rfl
theorem ev_lst {a b w c n : Nat} {i : Int32} {x : Int64} (hq : xins j pc = some (.lastore, 1, a, b, w)) (hst : st = .long x :: .int i :: .ref c :: r) (ho : ∀ f : FieldType → Nat → Option xR, xarr h c f = f .long n) (h0 : 0 ≤ i.toInt) (h1 : i.toInt < n) (hk : xEv L xs d j (pc + 1) lv r (xsetL h c i.toNatClampNeg x) v h') : xEv L xs d j pc lv st h v h' := by
  subst hst
  refine ev_step hq ?_ hk
  show x1 1 1 (xarr h c fun t n => bif xisJ t then xin i n (xgo (pc + 1) lv r (xsetL h c i.toNatClampNeg x)) else none) = _
  rw [ho]
  show x1 1 1 (xin i n (xgo (pc + 1) lv r (xsetL h c i.toNatClampNeg x))) = _
  rw [xin_ok h0 h1]
  rfl
theorem ev_rem {a b w : Nat} {x y : Int32} (hq : xins j pc = some (.irem, 1, a, b, w)) (hst : st = .int y :: .int x :: r) (hy : y ≠ 0) (hk : xEv L xs d j (pc + 1) lv (.int (x - x / y * y) :: r) h v h') : xEv L xs d j pc lv st h v h' := by
  subst hst
  refine ev_step hq ?_ hk
  show (match x1 1 1 (if y = 0 then none else some (lv, .int (x - x / y * y) :: r)) with
    | some r => xgo (pc + 1) r.1 r.2 h
    | none => none) = _
  rw [if_neg hy]
  rfl
theorem ev_retz {a b w : Nat} {x : Int32} (hq : xins j pc = some (.ireturn, 1, a, b, w)) (hm : xmv j = some .boolean) (hx : x = 0 ∨ x = 1) : xEv L xs d j pc lv [.int x] h (some (.int x)) h := by
  refine ev_ret hq ?_
  show x1 1 1 (match xmv j with
      | some .int => (some (.inr (.inl (some (.int x)))) : Option xR)
      | some .boolean => if x = 0 then some (.inr (.inl (some (.int x)))) else if x = 1 then some (.inr (.inl (some (.int x)))) else none
      | _ => none) = _
  rw [hm]
  rcases hx with rfl | rfl <;> rfl
end SEG
theorem aT_of {L : Nat} {xs : Nat → Int32} {d j : Nat} {h0 : aE} {pc pc1 : Nat} {lv st lv1 st1 : List Value} {h h1 : xH} (f : ∀ {v h'}, xEv L xs d (aJ j) pc1 lv1 st1 h1 v h' → xEv L xs d (aJ j) pc lv st h v h') (hk : aT L xs d j h0 pc1 lv1 st1 h1) : aT L xs d j h0 pc lv st h := by
  obtain ⟨v, h', he, hp⟩ := hk
  exact ⟨v, h', f he, hp⟩
/-! contracts by hand: small words -/
section HND
variable {j : Nat} {h0 : aE} {h : xH} {v : Option Value}
theorem post1 {cs : aCs} (ho : cs ∈ aOut j) (hg : aGood h) (hf : aFr (aMod j) h0.1 h) (hc : aCok h0 v h cs) : aPost j h0 v h := ⟨hg, hf, cs, ho, hc⟩
theorem cok_i {x : Int32} {lo hi : Int} {fs : aFs} (h1 : lo ≤ x.toInt) (h2 : x.toInt ≤ hi) (hf : aFok h fs) : aCok h0 (some (.int x)) h (some (Sum.inr (Sum.inl (lo, hi, none))), [], fs, []) := ⟨⟨_, rfl, x, rfl, h1, h2⟩, fun _ hq => (by cases hq), hf, fun _ hq => (by cases hq)⟩
theorem cok_v {fs : aFs} (hf : aFok h fs) : aCok h0 none h (none, [], fs, []) := ⟨rfl, fun _ hq => (by cases hq), hf, fun _ hq => (by cases hq)⟩
theorem fok0 : aFok h [] := fun _ hq => by cases hq
theorem fok1 {c k : Nat} {lo hi : Int} (hr : aIsRb c k = false) (h1 : lo ≤ (h.2.1 c k).toInt) (h2 : (h.2.1 c k).toInt ≤ hi) : aFok h [(c, k, lo, hi)] := by
  intro q hq
  rw [List.mem_singleton.mp hq]
  exact ⟨fun e => (by rw [hr] at e; cases e), fun _ => ⟨h1, h2⟩⟩
theorem fok_at {fs : aFs} {c k : Nat} {lo hi : Int} (hf : aFok h fs) (hm : (c, k, lo, hi) ∈ fs) (hr : aIsRb c k = false) : lo ≤ (h.2.1 c k).toInt ∧ (h.2.1 c k).toInt ≤ hi := (hf _ hm).2 hr
theorem fokR {fs : aFs} {c k : Nat} {lo hi : Int} (hf : aFok h fs) (hm : (c, k, lo, hi) ∈ fs) (hr : aIsRb c k = false) : aIn2 (lo, hi) (h.2.1 c k) := (hf _ hm).2 hr
theorem args_R {c : Nat} {vs : List Value} (h : aArgs [(Sum.inr (Sum.inr (Sum.inr (Sum.inl [c]))))] vs) : vs = [.ref c] := by
  cases vs with
  | nil => exact h.elim
  | cons a s =>
    obtain ⟨⟨e, rfl, he⟩, h2⟩ := h
    rw [List.mem_singleton.mp he, show s = [] from h2]
theorem args_RI {c : Nat} {lo hi : Int} {o : Option (aK × Int)} {vs : List Value} (h : aArgs [(Sum.inr (Sum.inr (Sum.inr (Sum.inl [c])))), (Sum.inr (Sum.inl (lo, hi, o)))] vs) : ∃ x : Int32, vs = [.ref c, .int x] ∧ lo ≤ x.toInt ∧ x.toInt ≤ hi := by
  match vs, h with
  | [], h => exact h.elim
  | [_], h => exact h.2.elim
  | a :: b :: s, h =>
    obtain ⟨⟨e, rfl, he⟩, ⟨x, rfl, h1, h2⟩, h3⟩ := h
    exact ⟨x, by rw [List.mem_singleton.mp he, show s = [] from h3], h1, h2⟩
theorem g0_r {c : Nat} {cs : List Nat} (h : c ∈ cs) : aG0 (Sum.inr (Sum.inr (Sum.inr (Sum.inl cs)))) (.ref c) := ⟨c, rfl, h⟩
theorem g0_i {x : Int32} {lo hi : Int} {o : Option (aK × Int)} (h1 : lo ≤ x.toInt) (h2 : x.toInt ≤ hi) : aG0 (Sum.inr (Sum.inl (lo, hi, o))) (.int x) := ⟨x, rfl, h1, h2⟩
theorem i_add1 {x : Int32} (h : x.toInt < 2147483647) : (x + 1).toInt = x.toInt + 1 := by
  have h1 := aw x
  rw [Int32.toInt_add, show (1 : Int32).toInt = 1 from by decide]
  exact abm (by omega) (by omega)
theorem i_add {x y : Int32} (h1 : -2147483648 ≤ x.toInt + y.toInt) (h2 : x.toInt + y.toInt ≤ 2147483647) : (x + y).toInt = x.toInt + y.toInt := by
  rw [Int32.toInt_add]
  exact abm h1 h2
theorem i_sub {x y : Int32} (h1 : -2147483648 ≤ x.toInt - y.toInt) (h2 : x.toInt - y.toInt ≤ 2147483647) : (x - y).toInt = x.toInt - y.toInt := by
  rw [Int32.toInt_sub]
  exact abm h1 h2
theorem good_int {h : xH} (hg : aGood h) (c k : Nat) (hh : aHasb c k = true) : (aRng c k).1 ≤ (h.2.1 c k).toInt ∧ (h.2.1 c k).toInt ≤ (aRng c k).2 := hg.2.1 c k (hasb_s hh)
theorem fr_int {m : Nat} {h h1 : xH} (hf : aFr m h h1) (c k : Nat) (hm : aisMod m (Sum.inr (c, k)) = false) : h1.2.1 c k = h.2.1 c k := (hf c k hm).1
theorem fr_ref {m : Nat} {h h1 : xH} (hf : aFr m h h1) (c k : Nat) (hm : aisMod m (Sum.inr (c, k)) = false) : h1.2.2.2 c k = h.2.2.2 c k := (hf c k hm).2.2
end HND
/-! the heap's parts, one place set -/
def uI (I : Nat → Nat → Int32) (c k : Nat) (v : Int32) : Nat → Nat → Int32 := va_up I c (upd (I c) k v)
def uL (J : Nat → Nat → Int64) (c k : Nat) (v : Int64) : Nat → Nat → Int64 := va_up J c (vp_updL (J c) k v)
def uR (R : Nat → Nat → Nat) (c k v : Nat) : Nat → Nat → Nat := va_up R c (va_up (R c) k v)
theorem uI_s (I : Nat → Nat → Int32) (c k : Nat) (v : Int32) : uI I c k v c k = v := hI_same (h := (124, I, fun _ _ => 0, fun _ _ => 0)) v
theorem uI_n (I : Nat → Nat → Int32) {c k c' k' : Nat} (v : Int32) (h : ¬ (c' = c ∧ k' = k)) : uI I c k v c' k' = I c' k' := hI_ne (h := (124, I, fun _ _ => 0, fun _ _ => 0)) v h
theorem uI_c (I : Nat → Nat → Int32) {c k c' : Nat} (k' : Nat) (v : Int32) (h : c' ≠ c) : uI I c k v c' k' = I c' k' := uI_n I v (fun z => h z.1)
section UU
variable {I : Nat → Nat → Int32} {J : Nat → Nat → Int64} {R : Nat → Nat → Nat} {c k : Nat}
theorem gd_I {v : Int32} (hg : aGood (124, I, J, R)) (h1 : (aRng c k).1 ≤ v.toInt) (h2 : v.toInt ≤ (aRng c k).2) : aGood (124, uI I c k v, J, R) := good_I (h := (124, I, J, R)) hg ⟨h1, h2⟩
theorem fr_uI {m : Nat} {h0 : xH} {v : Int32} (hf : aFr m h0 (124, I, J, R)) (hm : aisMod m (Sum.inr (c, k)) = true) : aFr m h0 (124, uI I c k v, J, R) := fr_I (h := (124, I, J, R)) hf hm
end UU
section ARR
variable {L : Nat} {xs : Nat → Int32} {d j pc : Nat} {lv st r : List Value} {h h' : xH} {v : Option Value}
theorem ev_bst {a b w c n : Nat} {t : FieldType} {i x y : Int32} (hq : xins j pc = some (.bastore, 1, a, b, w)) (hst : st = .int x :: .int i :: .ref c :: r) (ho : ∀ f : FieldType → Nat → Option xR, xarr h c f = f t n) (ht : ∀ i, (bif xisB t then xin i n (xgo (pc + 1) lv r (xsetI h c i.toNatClampNeg (vp_nar .byte x))) else (bif xisZ t then xin i n (xgo (pc + 1) lv r (xsetI h c i.toNatClampNeg (vp_nar .boolean x))) else none)) = xin i n (xgo (pc + 1) lv r (xsetI h c i.toNatClampNeg y))) (h0 : 0 ≤ i.toInt) (h1 : i.toInt < n) (hk : xEv L xs d j (pc + 1) lv r (xsetI h c i.toNatClampNeg y) v h') : xEv L xs d j pc lv st h v h' := by
  subst hst
  refine ev_step hq ?_ hk
  show x1 1 1 (xarr h c fun t n => bif xisB t then xin i n (xgo (pc + 1) lv r (xsetI h c i.toNatClampNeg (vp_nar .byte x))) else (bif xisZ t then xin i n (xgo (pc + 1) lv r (xsetI h c i.toNatClampNeg (vp_nar .boolean x))) else none)) = _
  rw [ho]
  show x1 1 1 (bif xisB t then xin i n (xgo (pc + 1) lv r (xsetI h c i.toNatClampNeg (vp_nar .byte x))) else (bif xisZ t then xin i n (xgo (pc + 1) lv r (xsetI h c i.toNatClampNeg (vp_nar .boolean x))) else none)) = _
  rw [ht, xin_ok h0 h1]
  rfl
theorem ev_len {a b w c n : Nat} {t : FieldType} (hq : xins j pc = some (.arraylength, 1, a, b, w)) (hst : st = .ref c :: r) (ho : ∀ f : FieldType → Nat → Option xR, xarr h c f = f t n) (hk : xEv L xs d j (pc + 1) lv (.int (Int32.ofNat n) :: r) h v h') : xEv L xs d j pc lv st h v h' := by
  subst hst
  refine ev_step hq ?_ hk
  show x1 1 1 (xarr h c fun _ n => xgo (pc + 1) lv (.int (Int32.ofNat n) :: r) h) = _
  rw [ho]
  rfl
/-- at, of any row -/
theorem at_run {c n : Nat} (ho : ∀ f : FieldType → Nat → Option xR, xarr h c f = f .int n) (hn : n < 2147483648) (i : Int32) : xEv L xs d 39 0 [.ref c, .int i] [] h (some (.int (if 0 ≤ i.toInt ∧ i.toInt < n then h.2.1 c i.toNatClampNeg else 0))) h := by
  have en : (Int32.ofNat n).toInt = n := Int32.toInt_ofNat_of_lt hn
  by_cases h1 : i.toInt < 0
  · rw [if_neg (by omega)]
    refine ev_go 1 (pc1 := 1) (lv1 := [.ref c, .int i]) (st1 := [.int i]) (h1 := h) rfl ?_
    refine ev_br (b1 := true) rfl rfl (xcd_lt (x := i) (y := 0) (by rw [show ((0 : Int32)).toInt = 0 from by decide]; exact h1)) ?_
    refine ev_go 1 (pc1 := 17) (lv1 := [.ref c, .int i]) (st1 := [.int 0]) (h1 := h) rfl ?_
    exact ev_ret rfl rfl
  · refine ev_go 1 (pc1 := 1) (lv1 := [.ref c, .int i]) (st1 := [.int i]) (h1 := h) rfl ?_
    refine ev_br (b1 := false) rfl rfl (xcd_nlt (x := i) (y := 0) (by rw [show ((0 : Int32)).toInt = 0 from by decide]; omega)) ?_
    refine ev_go 2 (pc1 := 6) (lv1 := [.ref c, .int i]) (st1 := [.ref c, .int i]) (h1 := h) rfl ?_
    refine ev_len (n := n) rfl rfl ho ?_
    by_cases h2 : i.toInt < n
    · rw [if_pos ⟨by omega, h2⟩]
      refine ev_br (b1 := false) rfl rfl (xcd_nge (x := i) (y := Int32.ofNat n) (by rw [en]; exact h2)) ?_
      refine ev_go 2 (pc1 := 12) (lv1 := [.ref c, .int i]) (st1 := [.int i, .ref c]) (h1 := h) rfl ?_
      refine ev_ild (n := n) rfl rfl ho (by omega) h2 ?_
      refine ev_go 1 (pc1 := 17) (lv1 := [.ref c, .int i]) (st1 := [.int (h.2.1 c i.toNatClampNeg)]) (h1 := h) rfl ?_
      exact ev_ret rfl rfl
    · rw [if_neg (by omega)]
      refine ev_br (b1 := true) rfl rfl (xcd_ge (x := i) (y := Int32.ofNat n) (by rw [en]; omega)) ?_
      refine ev_go 1 (pc1 := 17) (lv1 := [.ref c, .int i]) (st1 := [.int 0]) (h1 := h) rfl ?_
      exact ev_ret rfl rfl
/-- put, of any row -/
theorem put_run {c n : Nat} (ho : ∀ f : FieldType → Nat → Option xR, xarr h c f = f .int n) (hn : n < 2147483648) (i x : Int32) : xEv L xs d 33 0 [.ref c, .int i, .int x] [] h none (if 0 ≤ i.toInt ∧ i.toInt < n then xsetI h c i.toNatClampNeg x else h) := by
  have en : (Int32.ofNat n).toInt = n := Int32.toInt_ofNat_of_lt hn
  by_cases h1 : i.toInt < 0
  · rw [if_neg (by omega)]
    refine ev_go 1 (pc1 := 1) (lv1 := [.ref c, .int i, .int x]) (st1 := [.int i]) (h1 := h) rfl ?_
    refine ev_br (b1 := true) rfl rfl (xcd_lt (x := i) (y := 0) (by rw [show ((0 : Int32)).toInt = 0 from by decide]; exact h1)) ?_
    exact ev_ret rfl rfl
  · refine ev_go 1 (pc1 := 1) (lv1 := [.ref c, .int i, .int x]) (st1 := [.int i]) (h1 := h) rfl ?_
    refine ev_br (b1 := false) rfl rfl (xcd_nlt (x := i) (y := 0) (by rw [show ((0 : Int32)).toInt = 0 from by decide]; omega)) ?_
    refine ev_go 2 (pc1 := 6) (lv1 := [.ref c, .int i, .int x]) (st1 := [.ref c, .int i]) (h1 := h) rfl ?_
    refine ev_len (n := n) rfl rfl ho ?_
    by_cases h2 : i.toInt < n
    · rw [if_pos ⟨by omega, h2⟩]
      refine ev_br (b1 := false) rfl rfl (xcd_nge (x := i) (y := Int32.ofNat n) (by rw [en]; exact h2)) ?_
      refine ev_go 3 (pc1 := 13) (lv1 := [.ref c, .int i, .int x]) (st1 := [.int x, .int i, .ref c]) (h1 := h) rfl ?_
      refine ev_ist (n := n) rfl rfl ho (by omega) h2 ?_
      exact ev_ret rfl rfl
    · rw [if_neg (by omega)]
      refine ev_br (b1 := true) rfl rfl (xcd_ge (x := i) (y := Int32.ofNat n) (by rw [en]; omega)) ?_
      exact ev_ret rfl rfl
end ARR
