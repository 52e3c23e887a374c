/-! the checker's pure steps are sound -/
theorem ai_le {x y : Int} : aile x y = true ↔ x ≤ y := by unfold aile; exact decide_eq_true_iff
theorem ai_eq {x y : Int} : aieq x y = true ↔ x = y := by unfold aieq; exact decide_eq_true_iff
theorem ai_lef {x y : Int} (h : aile x y = false) : y < x := by
  have : ¬ x ≤ y := fun z => by rw [ai_le.mpr z] at h; cases h
  omega
theorem amin_l (x y : Int) : amin x y ≤ x := by
  unfold amin
  cases h : aile x y with
  | true => exact Int.le_refl _
  | false => have := ai_lef h; show y ≤ x; omega
theorem amin_r (x y : Int) : amin x y ≤ y := by
  unfold amin
  cases h : aile x y with
  | true => exact ai_le.mp h
  | false => exact Int.le_refl _
theorem amin_g {x y z : Int} (h1 : z ≤ x) (h2 : z ≤ y) : z ≤ amin x y := by
  unfold amin
  cases h : aile x y with
  | true => exact h1
  | false => exact h2
theorem amax_l (x y : Int) : x ≤ amax x y := by
  unfold amax
  cases h : aile x y with
  | true => exact ai_le.mp h
  | false => exact Int.le_refl _
theorem amax_r (x y : Int) : y ≤ amax x y := by
  unfold amax
  cases h : aile x y with
  | true => exact Int.le_refl _
  | false => have := ai_lef h; show y ≤ x; omega
theorem amax_g {x y z : Int} (h1 : x ≤ z) (h2 : y ≤ z) : amax x y ≤ z := by
  unfold amax
  cases h : aile x y with
  | true => exact h2
  | false => exact h1
theorem amem_s {x : Nat} {l : List Nat} (h : amem x l = true) : x ∈ l := by
  unfold amem at h
  obtain ⟨y, hy, e⟩ := List.any_eq_true.mp h
  rw [Nat.eq_of_beq_eq_true e]
  exact hy
theorem aKeq_s {x y : aK} (h : aKeq x y = true) : x = y := by
  cases x with
  | inl i => cases y with
    | inl i' => exact congrArg Sum.inl (Nat.eq_of_beq_eq_true h)
    | inr q => cases h
  | inr p => cases y with
    | inl i' => cases h
    | inr q =>
      obtain ⟨c, k⟩ := p
      obtain ⟨c', k'⟩ := q
      have h2 : (Nat.beq c c' && Nat.beq k k') = true := h
      rw [Bool.and_eq_true] at h2
      rw [Nat.eq_of_beq_eq_true h2.1, Nat.eq_of_beq_eq_true h2.2]
/-- what a says of v, wherever it came from -/
def aG0 (a : aV) (v : Value) : Prop := match a with
  | (Sum.inl ()) => True
  | (Sum.inr (Sum.inl (lo, hi, _))) => ∃ x : Int32, v = .int x ∧ lo ≤ x.toInt ∧ x.toInt ≤ hi
  | (Sum.inr (Sum.inr (Sum.inl (lo, hi)))) => ∃ x : Int64, v = .long x ∧ lo ≤ x.toInt ∧ x.toInt ≤ hi
  | (Sum.inr (Sum.inr (Sum.inr (Sum.inl (cs))))) => ∃ c, v = .ref c ∧ c ∈ cs
  | (Sum.inr (Sum.inr (Sum.inr (Sum.inr (ks))))) => ∃ k, v = .retAddr k ∧ k ∈ ks
def aLs (alv : List aV) (lv : List Value) : Prop := alv.length = lv.length ∧ ∀ (i : Nat) (a : aV), alv[i]? = some a → ∃ v, lv[i]? = some v ∧ aG0 a v
def aGs (lv : List Value) (h : xH) (as : List aV) (vs : List Value) : Prop := match as with
  | [] => vs = []
  | a :: r => match vs with
    | [] => False
    | v :: s => aG lv h a v ∧ aGs lv h r s
/-- places against the start -/
def aUq (h0 h : xH) (q : (Nat × Nat) × Int × Bool) : Prop := (h0.2.1 q.1.1 q.1.2).toInt + q.2.1 ≤ (h.2.1 q.1.1 q.1.2).toInt ∧ (q.2.2 = true → (h.2.1 q.1.1 q.1.2).toInt = (h0.2.1 q.1.1 q.1.2).toInt + q.2.1)
def aUok (h0 h : xH) (us : aU) : Prop := ∀ q ∈ us, aUq h0 h q
def aAlq (lv : List Value) (h : xH) (q : Nat × (Nat × Nat) × Int × Bool) : Prop := ∃ x : Int32, lv[q.1]? = some (.int x) ∧ (h.2.1 q.2.1.1 q.2.1.2).toInt + q.2.2.1 ≤ x.toInt ∧ (q.2.2.2 = true → x.toInt = (h.2.1 q.2.1.1 q.2.1.2).toInt + q.2.2.1)
/-- x has grown by e (or by at least e) -/
def aWq (base : aK → Int) (lv : List Value) (h : xH) (x : aK) (e : Int × Bool) : Prop := ∃ w, aCur lv h x = some w ∧ base x + e.1 ≤ w ∧ (e.2 = true → w = base x + e.1)
def aTs (base : aB) (lv : List Value) (h : xH) (tr : aTr) : Prop := (∀ q ∈ tr.1, ∀ e, q.2 = some e → aWq base.1 lv h q.1 e) ∧ (∀ q ∈ tr.2.1, aAlq lv h q) ∧ (∀ i ∈ tr.2.2.1, lv[i]? = base.2.2[i]?) ∧ aUok base.2.1 h tr.2.2.2
section AG
variable {lv : List Value} {h : xH} {base : aB}
theorem g_of {a : aV} {v : Value} (hg : aG lv h a v) : aG0 a v := by
  rcases a with _ | ⟨lo, hi, o⟩ | ⟨lo, hi⟩ | cs | ks
  · trivial
  · obtain ⟨x, e, h1, h2, -⟩ := hg; exact ⟨x, e, h1, h2⟩
  · exact hg
  · exact hg
  · exact hg
theorem g_ful (x : Int32) : aG lv h aFul (.int x) := ⟨x, rfl, (aw x).1, (aw x).2, trivial⟩
theorem g_lful (x : Int64) : aG lv h aLful (.long x) := ⟨x, rfl, (awL x).1, (awL x).2⟩
theorem g_num (x : Int32) : aG lv h (aNum x.toInt) (.int x) := ⟨x, rfl, Int.le_refl _, Int.le_refl _, trivial⟩
theorem g_fit {x : Int32} {lo hi z : Int} {o : Option (aK × Int)} (hz : x.toInt = z.bmod (2 ^ 32)) (h1 : lo ≤ z) (h2 : z ≤ hi) (ho : aOr lv h o z) : aG lv h (aFit lo hi o) (.int x) := by
  unfold aFit
  cases hb : aile aMin lo && aile hi aMax with
  | false => exact g_ful x
  | true =>
    rw [Bool.and_eq_true] at hb
    have a1 : -2147483648 ≤ lo := ai_le.mp hb.1
    have a2 : hi ≤ 2147483647 := ai_le.mp hb.2
    have e : x.toInt = z := by rw [hz, abm (by omega) (by omega)]
    exact ⟨x, rfl, by omega, by omega, by rw [e]; exact ho⟩
theorem g_lfit {x : Int64} {lo hi z : Int} (hz : x.toInt = z.bmod (2 ^ 64)) (h1 : lo ≤ z) (h2 : z ≤ hi) : aG lv h (aLfit lo hi) (.long x) := by
  unfold aLfit
  cases hb : aile aLmin lo && aile hi aLmax with
  | false => exact g_lful x
  | true =>
    rw [Bool.and_eq_true] at hb
    have a1 : -9223372036854775808 ≤ lo := ai_le.mp hb.1
    have a2 : hi ≤ 9223372036854775807 := ai_le.mp hb.2
    have e : x.toInt = z := by rw [hz, abmL (by omega) (by omega)]
    exact ⟨x, rfl, by omega, by omega⟩
theorem g_sh {o : Option (aK × Int)} {z : Int} (e : Int) (ho : aOr lv h o z) : aOr lv h (aSh o e) (z + e) := by
  cases o with
  | none => trivial
  | some q =>
    obtain ⟨w, h1, h2⟩ := ho
    exact ⟨w, h1, by show z + e = w + (q.2 + e); omega⟩
theorem g_add {x y : Int32} {a b c d : Int} {o o' : Option (aK × Int)} (h1 : a ≤ x.toInt) (h2 : x.toInt ≤ b) (h3 : aOr lv h o x.toInt) (h4 : c ≤ y.toInt) (h5 : y.toInt ≤ d) (h6 : aOr lv h o' y.toInt) : aG lv h (aAdd a b o c d o') (.int (x + y)) := by
  refine g_fit (Int32.toInt_add x y) (by omega) (by omega) ?_
  cases hb : aieq c d with
  | true =>
    have := ai_eq.mp hb
    have e : y.toInt = c := by omega
    rw [e]
    exact g_sh c h3
  | false =>
    cases hb2 : aieq a b with
    | true =>
      have := ai_eq.mp hb2
      have e : x.toInt = a := by omega
      rw [e, Int.add_comm]
      exact g_sh a h6
    | false => trivial
theorem g_sub {x y : Int32} {a b c d : Int} {o : Option (aK × Int)} (h1 : a ≤ x.toInt) (h2 : x.toInt ≤ b) (h3 : aOr lv h o x.toInt) (h4 : c ≤ y.toInt) (h5 : y.toInt ≤ d) : aG lv h (aSub a b o c d) (.int (x - y)) := by
  refine g_fit (Int32.toInt_sub x y) (by omega) (by omega) ?_
  cases hb : aieq c d with
  | true =>
    have := ai_eq.mp hb
    have e : y.toInt = c := by omega
    rw [e, Int.sub_eq_add_neg]
    exact g_sh (-c) h3
  | false => trivial
theorem g_one {g : Int32 → Int32 → Int32} {x y : Int32} {a b c d : Int} {z : aV} (h1 : a ≤ x.toInt) (h2 : x.toInt ≤ b) (h4 : c ≤ y.toInt) (h5 : y.toInt ≤ d) (hz : aG lv h z (.int (g x y))) : aG lv h (aOne g a b c d z) (.int (g x y)) := by
  unfold aOne
  cases hb : aieq a b && aieq c d with
  | false => exact hz
  | true =>
    rw [Bool.and_eq_true] at hb
    have e1 := ai_eq.mp hb.1
    have e2 := ai_eq.mp hb.2
    have e3 : a = x.toInt := by omega
    have e4 : c = y.toInt := by omega
    rw [e3, e4, Int32.ofInt_toInt, Int32.ofInt_toInt]
    exact ⟨_, rfl, Int.le_refl _, Int.le_refl _, trivial⟩
theorem g_mul {x y : Int32} {a b c d : Int} (h1 : a ≤ x.toInt) (h2 : x.toInt ≤ b) (h4 : c ≤ y.toInt) (h5 : y.toInt ≤ d) : aG lv h (aMul a b c d) (.int (x * y)) := by
  unfold aMul
  cases ha : aile 0 a with
  | true =>
    have e1 := ai_le.mp ha
    have x0 : 0 ≤ x.toInt := by omega
    refine g_fit (Int32.toInt_mul x y) ?_ ?_ trivial
    · have k1 : x.toInt * c ≤ x.toInt * y.toInt := Int.mul_le_mul_of_nonneg_left h4 x0
      cases hc : aile 0 c with
      | true => exact Int.le_trans (Int.mul_le_mul_of_nonneg_right h1 (ai_le.mp hc)) k1
      | false =>
        have e2 := ai_lef hc
        exact Int.le_trans (Int.mul_le_mul_of_nonpos_right h2 (by omega)) k1
    · have k1 : x.toInt * y.toInt ≤ x.toInt * d := Int.mul_le_mul_of_nonneg_left h5 x0
      cases hd : aile 0 d with
      | true => exact Int.le_trans k1 (Int.mul_le_mul_of_nonneg_right h2 (ai_le.mp hd))
      | false =>
        have e2 := ai_lef hd
        exact Int.le_trans k1 (Int.mul_le_mul_of_nonpos_right h1 (by omega))
  | false =>
    have e1 := ai_lef ha
    cases hc : aile 0 c with
    | false => exact g_ful _
    | true =>
      have e2 := ai_le.mp hc
      have y0 : 0 ≤ y.toInt := by omega
      refine g_fit (Int32.toInt_mul x y) ?_ ?_ trivial
      · have k1 : a * y.toInt ≤ x.toInt * y.toInt := Int.mul_le_mul_of_nonneg_right h1 y0
        exact Int.le_trans (Int.mul_le_mul_of_nonpos_left (by omega) h5) k1
      · have k1 : x.toInt * y.toInt ≤ b * y.toInt := Int.mul_le_mul_of_nonneg_right h2 y0
        cases hb : aile 0 b with
        | true => exact Int.le_trans k1 (Int.mul_le_mul_of_nonneg_left h5 (ai_le.mp hb))
        | false =>
          have e3 := ai_lef hb
          exact Int.le_trans k1 (Int.mul_le_mul_of_nonpos_left (by omega) h4)
theorem g_ior {x y : Int32} {a b c d : Int} (h1 : a ≤ x.toInt) (h2 : x.toInt ≤ b) (h4 : c ≤ y.toInt) (h5 : y.toInt ≤ d) : aG lv h (aIor a b c d) (.int (x ||| y)) := by
  unfold aIor
  cases hb : aile 0 a && aile 0 c with
  | false => exact g_ful _
  | true =>
    rw [Bool.and_eq_true] at hb
    have e1 := ai_le.mp hb.1
    have e2 := ai_le.mp hb.2
    have l1 := amax_l b d
    have l2 := amax_r b d
    have l := ai_or (x := x) (y := y) (m := (amax b d).toNat) (by omega) (by omega) (by omega) (by omega)
    exact ⟨_, rfl, l.1, l.2, trivial⟩
theorem g_and {x y : Int32} {a b c d : Int} (h1 : a ≤ x.toInt) (h2 : x.toInt ≤ b) (h4 : c ≤ y.toInt) (h5 : y.toInt ≤ d) : aG lv h (aAnd a b c d) (.int (x &&& y)) := by
  unfold aAnd
  cases hc : aile 0 c with
  | true =>
    have e1 := ai_le.mp hc
    have l1 := ai_andr (x := x) (y := y) (by omega)
    cases ha : aile 0 a with
    | true =>
      have e2 := ai_le.mp ha
      have l2 := ai_andl (x := x) (y := y) (by omega)
      exact ⟨_, rfl, l1.1, amin_g (by omega) (by omega), trivial⟩
    | false => exact ⟨_, rfl, l1.1, by omega, trivial⟩
  | false =>
    cases ha : aile 0 a with
    | true =>
      have e2 := ai_le.mp ha
      have l2 := ai_andl (x := x) (y := y) (by omega)
      exact ⟨_, rfl, l2.1, by omega, trivial⟩
    | false => exact g_ful _
theorem g_shr {x y : Int32} {a b c d : Int} (h1 : a ≤ x.toInt) (h2 : x.toInt ≤ b) : aG lv h (aShr a b c d) (.int (x >>> y)) := by
  unfold aShr
  cases ha : aile 0 a with
  | true =>
    have e2 := ai_le.mp ha
    have l2 := ai_shr (x := x) (y := y) (by omega)
    exact ⟨_, rfl, l2.1, by omega, trivial⟩
  | false => exact g_ful _
theorem g_div {x y : Int32} {a b c d : Int} {v : aV} (h1 : a ≤ x.toInt) (h2 : x.toInt ≤ b) (h4 : c ≤ y.toInt) (h5 : y.toInt ≤ d) (hv : aDiv a b c d = some v) : y ≠ 0 ∧ aG lv h v (.int (x / y)) := by
  unfold aDiv at hv
  cases hc : aile 1 c with
  | true =>
    have e1 := ai_le.mp hc
    rw [hc] at hv
    refine ⟨ai_ne0 (by omega), ?_⟩
    cases ha : aile 0 a with
    | true =>
      have e2 := ai_le.mp ha
      rw [ha] at hv
      cases hv
      have e := ai_div (x := x) (y := y) (by omega)
      have l1 := Int.tdiv_nonneg (a := x.toInt) (b := y.toInt) (by omega) (by omega)
      have l2 := Int.tdiv_le_self (a := x.toInt) y.toInt (by omega)
      exact ⟨_, rfl, by omega, by omega, trivial⟩
    | false => rw [ha] at hv; cases hv; exact g_ful _
  | false =>
    rw [hc] at hv
    cases hd : aile d (-1) with
    | true =>
      have e1 := ai_le.mp hd
      rw [hd] at hv
      cases hv
      exact ⟨ai_ne0 (by omega), g_ful _⟩
    | false => rw [hd] at hv; cases hv
theorem g_rem {x y : Int32} {a b c d : Int} {v : aV} (h1 : a ≤ x.toInt) (h2 : x.toInt ≤ b) (h4 : c ≤ y.toInt) (h5 : y.toInt ≤ d) (hv : aRem a b c d = some v) : y ≠ 0 ∧ aG lv h v (.int (x - x / y * y)) := by
  unfold aRem at hv
  cases hc : aile 1 c with
  | true =>
    have e1 := ai_le.mp hc
    rw [hc] at hv
    refine ⟨ai_ne0 (by omega), ?_⟩
    have e := ai_rem (x := x) (y := y) (by omega)
    have l1 := Int.tmod_lt_of_pos x.toInt (b := y.toInt) (by omega)
    have l2 := Int.lt_tmod_of_pos x.toInt (b := y.toInt) (by omega)
    cases ha : aile 0 a with
    | true =>
      have e2 := ai_le.mp ha
      rw [ha] at hv
      cases hv
      have l3 := ai_modle (a := x.toInt) (b := y.toInt) (by omega) (by omega)
      have l4 := Int.tmod_nonneg (a := x.toInt) y.toInt (by omega)
      exact ⟨_, rfl, by omega, amin_g (by omega) (by omega), trivial⟩
    | false => rw [ha] at hv; cases hv; exact ⟨_, rfl, by omega, by omega, trivial⟩
  | false =>
    rw [hc] at hv
    cases hd : aile d (-1) with
    | true =>
      have e1 := ai_le.mp hd
      rw [hd] at hv
      cases hv
      exact ⟨ai_ne0 (by omega), g_ful _⟩
    | false => rw [hd] at hv; cases hv
theorem g_ldiv {x y : Int64} {a b c d : Int} {v : aV} (h1 : a ≤ x.toInt) (h2 : x.toInt ≤ b) (h4 : c ≤ y.toInt) (h5 : y.toInt ≤ d) (hv : aLdiv a b c d = some v) : y ≠ 0 ∧ aG lv h v (.long (x / y)) := by
  unfold aLdiv at hv
  cases hc : aile 1 c with
  | true =>
    have e1 := ai_le.mp hc
    rw [hc] at hv
    refine ⟨ai_ne0L (by omega), ?_⟩
    cases ha : aile 0 a with
    | true =>
      have e2 := ai_le.mp ha
      rw [ha] at hv
      cases hv
      have e := ai_divL (x := x) (y := y) (by omega)
      have l1 := Int.tdiv_nonneg (a := x.toInt) (b := y.toInt) (by omega) (by omega)
      have l2 := Int.tdiv_le_self (a := x.toInt) y.toInt (by omega)
      exact ⟨_, rfl, by omega, by omega⟩
    | false => rw [ha] at hv; cases hv; exact g_lful _
  | false =>
    rw [hc] at hv
    cases hd : aile d (-1) with
    | true =>
      have e1 := ai_le.mp hd
      rw [hd] at hv
      cases hv
      exact ⟨ai_ne0L (by omega), g_lful _⟩
    | false => rw [hd] at hv; cases hv
theorem g_lrem {x y : Int64} {a b c d : Int} {v : aV} (h1 : a ≤ x.toInt) (h2 : x.toInt ≤ b) (h4 : c ≤ y.toInt) (h5 : y.toInt ≤ d) (hv : aLrem a b c d = some v) : y ≠ 0 ∧ aG lv h v (.long (x - x / y * y)) := by
  unfold aLrem at hv
  cases hc : aile 1 c with
  | true =>
    have e1 := ai_le.mp hc
    rw [hc] at hv
    refine ⟨ai_ne0L (by omega), ?_⟩
    have e := ai_remL (x := x) (y := y) (by omega)
    have l1 := Int.tmod_lt_of_pos x.toInt (b := y.toInt) (by omega)
    have l2 := Int.lt_tmod_of_pos x.toInt (b := y.toInt) (by omega)
    cases ha : aile 0 a with
    | true =>
      have e2 := ai_le.mp ha
      rw [ha] at hv
      cases hv
      have l3 := ai_modle (a := x.toInt) (b := y.toInt) (by omega) (by omega)
      have l4 := Int.tmod_nonneg (a := x.toInt) y.toInt (by omega)
      exact ⟨_, rfl, by omega, amin_g (by omega) (by omega)⟩
    | false => rw [ha] at hv; cases hv; exact ⟨_, rfl, by omega, by omega⟩
  | false =>
    rw [hc] at hv
    cases hd : aile d (-1) with
    | true =>
      have e1 := ai_le.mp hd
      rw [hd] at hv
      cases hv
      exact ⟨ai_ne0L (by omega), g_lful _⟩
    | false => rw [hd] at hv; cases hv
theorem g_land {x y : Int64} {a b c d : Int} (h1 : a ≤ x.toInt) (h2 : x.toInt ≤ b) (h4 : c ≤ y.toInt) (h5 : y.toInt ≤ d) : aG lv h (aLand a b c d) (.long (x &&& y)) := by
  unfold aLand
  cases hc : aile 0 c with
  | true =>
    have e1 := ai_le.mp hc
    have l1 := ai_andrL (x := x) (y := y) (by omega)
    exact ⟨_, rfl, l1.1, by omega⟩
  | false =>
    cases ha : aile 0 a with
    | true =>
      have e2 := ai_le.mp ha
      have l2 := ai_andlL (x := x) (y := y) (by omega)
      exact ⟨_, rfl, l2.1, by omega⟩
    | false => exact g_lful _
theorem g_l2i {x : Int64} {a b : Int} (h1 : a ≤ x.toInt) (h2 : x.toInt ≤ b) : aG lv h (aL2i a b) (.int x.toInt32) := by
  unfold aL2i
  cases hb : aile aMin a && aile b aMax with
  | false => exact g_ful _
  | true =>
    rw [Bool.and_eq_true] at hb
    have e1 : -2147483648 ≤ a := ai_le.mp hb.1
    have e2 : b ≤ 2147483647 := ai_le.mp hb.2
    have e : x.toInt32.toInt = x.toInt := by rw [Int64.toInt_toInt32, abm (by omega) (by omega)]
    exact ⟨_, rfl, by omega, by omega, trivial⟩
end AG
