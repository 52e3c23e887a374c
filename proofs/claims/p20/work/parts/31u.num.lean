/-! powers of ten and rows of digits; both are chosen, so that nothing unfolds them -/
theorem tn_ex : ∃ f : Nat → Int, f 0 = 1 ∧ ∀ n, f (n + 1) = f n * 10 := ⟨fun n => Nat.rec 1 (fun _ x => x * 10) n, rfl, fun _ => rfl⟩
noncomputable def tn : Nat → Int := Classical.choose tn_ex
theorem tn_0 : tn 0 = 1 := (Classical.choose_spec tn_ex).1
theorem tn_1 (n : Nat) : tn (n + 1) = tn n * 10 := (Classical.choose_spec tn_ex).2 n
theorem tn_pos (n : Nat) : 0 < tn n := by
  induction n with
  | zero => rw [tn_0]; decide
  | succ n ih =>
    have e := tn_1 n
    omega
theorem tn_ne (n : Nat) : tn n ≠ 0 := by
  have := tn_pos n
  omega
theorem tn_add (a b : Nat) : tn (a + b) = tn a * tn b := by
  induction b with
  | zero => rw [tn_0, Int.mul_one, Nat.add_zero]
  | succ b ih => rw [← Nat.add_assoc, tn_1, tn_1, ih, Int.mul_assoc]
theorem tn_s (e n : Nat) : tn (e * (n + 1)) = tn (e * n) * tn e := by rw [Nat.mul_add, Nat.mul_one, tn_add]
theorem tn_mono {a b : Nat} (h : a ≤ b) : tn a ≤ tn b := by
  obtain ⟨k, rfl⟩ : ∃ k, b = a + k := ⟨b - a, by omega⟩
  rw [tn_add]
  have h1 := tn_pos k
  have h2 := Int.mul_le_mul_of_nonneg_left (show (1 : Int) ≤ tn k by omega) (Int.le_of_lt (tn_pos a))
  rw [Int.mul_one] at h2
  exact h2
theorem tn_lt {a b : Nat} (h : a < b) : tn a < tn b := by
  have h1 : tn (a + 1) ≤ tn b := tn_mono h
  have h2 := tn_1 a
  have h3 := tn_pos a
  omega
theorem tn_le {a b : Nat} (h : tn a ≤ tn b) : a ≤ b := by
  by_cases c : a ≤ b
  · exact c
  · have h1 := tn_lt (Nat.lt_of_not_le c)
    omega
theorem tn_3 : tn 3 = 1000 := by
  have a := tn_1 0
  have b := tn_1 1
  have c := tn_1 2
  rw [tn_0] at a
  rw [show (0 : Nat) + 1 = 1 from rfl] at a
  rw [show (1 : Nat) + 1 = 2 from rfl] at b
  rw [show (2 : Nat) + 1 = 3 from rfl] at c
  omega
theorem tn_6 : tn 6 = 1000000 := by
  have a := tn_add 3 3
  rw [tn_3] at a
  exact a.trans (by decide +kernel)
theorem tn_9 : tn 9 = 1000000000 := by
  have a := tn_add 6 3
  rw [tn_3, tn_6] at a
  exact a.trans (by decide +kernel)
theorem tn_15 : tn 15 = 1000000000000000 := by
  have a := tn_add 9 6
  rw [tn_9, tn_6] at a
  exact a.trans (by decide +kernel)
theorem tn_16 : tn 16 = 10000000000000000 := by
  have a := tn_1 15
  rw [tn_15] at a
  exact a.trans (by decide +kernel)
theorem tn_18 : tn 18 = 1000000000000000000 := by
  have a := tn_add 9 9
  rw [tn_9] at a
  exact a.trans (by decide +kernel)
/-- a row of digits, the least first, each of e tens -/
theorem sT_ex : ∃ s : Nat → (Nat → Int) → Nat → Int, (∀ e f, s e f 0 = 0) ∧ ∀ e f n, s e f (n + 1) = s e f n + f n * tn (e * n) := ⟨fun e f n => Nat.rec 0 (fun n x => x + f n * tn (e * n)) n, fun _ _ => rfl, fun _ _ _ => rfl⟩
noncomputable def sT : Nat → (Nat → Int) → Nat → Int := Classical.choose sT_ex
theorem sT_0 (e : Nat) (f : Nat → Int) : sT e f 0 = 0 := (Classical.choose_spec sT_ex).1 e f
theorem sT_s (e : Nat) (f : Nat → Int) (n : Nat) : sT e f (n + 1) = sT e f n + f n * tn (e * n) := (Classical.choose_spec sT_ex).2 e f n
theorem sT_1 (e : Nat) (f : Nat → Int) : sT e f 1 = f 0 := by
  have h := sT_s e f 0
  rw [Nat.mul_zero, tn_0, Int.mul_one, sT_0, Int.zero_add] at h
  exact h
theorem sT_2 (e : Nat) (f : Nat → Int) : sT e f 2 = f 0 + f 1 * tn e := by
  have h := sT_s e f 1
  rw [sT_1, Nat.mul_one] at h
  exact h
theorem sT_3 (e : Nat) (f : Nat → Int) : sT e f 3 = f 0 + f 1 * tn e + f 2 * tn (e * 2) := by
  have h := sT_s e f 2
  rw [sT_2] at h
  exact h
theorem sT_c {e : Nat} {f g : Nat → Int} : ∀ n, (∀ i, i < n → f i = g i) → sT e f n = sT e g n := by
  intro n
  induction n with
  | zero => intro _; rw [sT_0, sT_0]
  | succ n ih =>
    intro h
    rw [sT_s, sT_s, ih (fun i hi => h i (by omega)), h n (by omega)]
theorem sT_z {e : Nat} {f : Nat → Int} (n : Nat) : ∀ k, (∀ i, n ≤ i → i < n + k → f i = 0) → sT e f (n + k) = sT e f n := by
  intro k
  induction k with
  | zero => intro _; rfl
  | succ k ih =>
    intro h
    have e1 : sT e f (n + (k + 1)) = sT e f (n + k) + f (n + k) * tn (e * (n + k)) := sT_s e f (n + k)
    rw [e1, ih (fun i h1 h2 => h i h1 (by omega)), h (n + k) (by omega) (by omega), Int.zero_mul, Int.add_zero]
theorem sT_b {e : Nat} {f : Nat → Int} : ∀ n, (∀ i, i < n → 0 ≤ f i ∧ f i < tn e) → 0 ≤ sT e f n ∧ sT e f n < tn (e * n) := by
  intro n
  induction n with
  | zero => intro _; rw [sT_0]; exact ⟨Int.le_refl _, tn_pos _⟩
  | succ n ih =>
    intro h
    obtain ⟨a1, a2⟩ := ih (fun i hi => h i (by omega))
    obtain ⟨b1, b2⟩ := h n (by omega)
    have hp := tn_pos (e * n)
    have m1 := Int.mul_nonneg b1 (Int.le_of_lt hp)
    have m2 := Int.mul_le_mul_of_nonneg_right (show f n + 1 ≤ tn e by omega) (Int.le_of_lt hp)
    rw [Int.add_mul, Int.one_mul] at m2
    rw [sT_s, tn_s, Int.mul_comm (tn (e * n)) (tn e)]
    generalize f n * tn (e * n) = x at *
    generalize tn e * tn (e * n) = y at *
    omega
theorem sT_p {e : Nat} {f : Nat → Int} (n : Nat) : ∀ k, sT e f (n + k) = sT e f n + tn (e * n) * sT e (fun i => f (n + i)) k := by
  intro k
  induction k with
  | zero =>
    rw [sT_0, Int.mul_zero, Int.add_zero, Nat.add_zero]
  | succ k ih =>
    have e1 : sT e f (n + (k + 1)) = sT e f (n + k) + f (n + k) * tn (e * (n + k)) := sT_s e f (n + k)
    have e2 : sT e (fun i => f (n + i)) (k + 1) = sT e (fun i => f (n + i)) k + f (n + k) * tn (e * k) := sT_s e (fun i => f (n + i)) k
    have e3 : f (n + k) * (tn (e * n) * tn (e * k)) = tn (e * n) * (f (n + k) * tn (e * k)) := Int.mul_left_comm _ _ _
    rw [e1, e2, ih, Nat.mul_add, tn_add, Int.mul_add, e3, Int.add_assoc]
/-- a step from behind, with what is carried -/
theorem sm_st {P B s0 t0 ov bb x r q : Int} (h : s0 + ov * P = bb * t0) (hv : r + q * B = x * bb + ov) : s0 + r * P + q * (P * B) = bb * (t0 + x * P) := by
  have h2 : (r + q * B) * P = (x * bb + ov) * P := by rw [hv]
  rw [Int.add_mul, Int.add_mul] at h2
  have e1 : q * (P * B) = q * B * P := by rw [Int.mul_assoc, Int.mul_comm B P]
  have e2 : bb * (x * P) = x * bb * P := by rw [← Int.mul_assoc, Int.mul_comm bb x]
  rw [Int.mul_add, e1, e2]
  omega
/-! constants; kept out of the contexts, for omega compares atoms by unfolding them -/
theorem k64_16 : (10000000000000000 : Int64).toInt = 10000000000000000 := by decide +kernel
theorem k64_m1 : (1 * 10000000000000000 : Int64).toInt = 10000000000000000 := by decide +kernel
theorem k64_m0 : (0 * 10000000000000000 : Int64).toInt = 0 := by decide +kernel
theorem k64_15 : (1000000000000000 : Int64).toInt = 1000000000000000 := by decide +kernel
theorem k64_10 : (10000000000 : Int64).toInt = 10000000000 := by decide +kernel
theorem k64_9 : (1000000000 : Int64).toInt = 1000000000 := by decide +kernel
theorem k64_6 : (1000000 : Int64).toInt = 1000000 := by decide +kernel
theorem k64_t : (10 : Int64).toInt = 10 := by decide +kernel
theorem k64_1 : (1 : Int64).toInt = 1 := by decide +kernel
theorem k64_0 : (0 : Int64).toInt = 0 := by decide +kernel
theorem k64_d10 : ((10 : Int32).toInt64).toInt = 10 := by decide +kernel
theorem k64_d100 : ((100 : Int32).toInt64).toInt = 100 := by decide +kernel
theorem k32_6 : (1000000 : Int32).toInt = 1000000 := by decide +kernel
theorem k32_3 : (1000 : Int32).toInt = 1000 := by decide +kernel
theorem i_div {x y : Int32} (h : 0 ≤ x.toInt) (hy : 1 ≤ y.toInt) : (x / y).toInt = x.toInt / y.toInt := by
  rw [ai_div hy]
  exact Int.tdiv_eq_ediv_of_nonneg h
theorem i_rem {x y : Int32} (h : 0 ≤ x.toInt) (hy : 1 ≤ y.toInt) : (x - x / y * y).toInt = x.toInt % y.toInt := by
  rw [ai_rem hy]
  exact Int.tmod_eq_emod_of_nonneg h
theorem l_div {x y : Int64} (h : 0 ≤ x.toInt) (hy : 1 ≤ y.toInt) : (x / y).toInt = x.toInt / y.toInt := by
  rw [ai_divL hy]
  exact Int.tdiv_eq_ediv_of_nonneg h
theorem l_rem {x y : Int64} (h : 0 ≤ x.toInt) (hy : 1 ≤ y.toInt) : (x - x / y * y).toInt = x.toInt % y.toInt := by
  rw [ai_remL hy]
  exact Int.tmod_eq_emod_of_nonneg h
theorem l2i_t {x : Int64} (h1 : -2147483648 ≤ x.toInt) (h2 : x.toInt ≤ 2147483647) : x.toInt32.toInt = x.toInt := by rw [Int64.toInt_toInt32, abm h1 h2]
theorem ev_iinc {L : Nat} {xs : Nat → Int32} {d j pc : Nat} {lv lv1 st : List Value} {h h' : xH} {v : Option Value} {k a b w : Nat} {n : Int} {x y : Int32} (hq : xins j pc = some (.iinc k n, 3, a, b, w)) (hl : lv[k]? = some (.int x)) (hy : x + Int32.ofInt n = y) (h1 : xst1 lv k (.int y) = lv1) (hk : xEv L xs d j (pc + 3) lv1 st h v h') : xEv L xs d j pc lv st h v h' := by
  refine ev_step hq ?_ hk
  show (match x1 3 3 (xldI lv k fun x => some (xst1 lv k (.int (x + Int32.ofInt n)), st)) with
    | some r => xgo (pc + 3) r.1 r.2 h
    | none => none) = _
  unfold xldI
  rw [hl]
  dsimp only
  rw [hy, h1]
  rfl
