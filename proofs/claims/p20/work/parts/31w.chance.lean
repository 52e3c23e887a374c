/-! rows of limbs: more on sums -/
theorem sT_u {e : Nat} {f g : Nat → Int} (m : Nat) : ∀ k, (∀ i, m ≤ i → i < m + k → f i = g i) → sT e f (m + k) - sT e f m = sT e g (m + k) - sT e g m := by
  intro k
  induction k with
  | zero => intro _; rw [Nat.add_zero, Int.sub_self, Int.sub_self]
  | succ k ih =>
    intro h
    have e1 : sT e f (m + (k + 1)) = sT e f (m + k) + f (m + k) * tn (e * (m + k)) := sT_s e f (m + k)
    have e2 : sT e g (m + (k + 1)) = sT e g (m + k) + g (m + k) * tn (e * (m + k)) := sT_s e g (m + k)
    have i1 := ih (fun i h1 h2 => h i h1 (by omega))
    rw [e1, e2, h (m + k) (by omega) (by omega)]
    omega
theorem sT_lt {e : Nat} {f g : Nat → Int} {n m : Nat} (hm : m < n) (hU : ∀ i, m < i → i < n → f i = g i) (hl : f m < g m) (hf : ∀ i, i < m → 0 ≤ f i ∧ f i < tn e) (hg : ∀ i, i < m → 0 ≤ g i ∧ g i < tn e) : sT e f n < sT e g n := by
  have u := sT_u (e := e) (f := f) (g := g) (m + 1) (n - (m + 1)) (fun i h1 h2 => hU i (by omega) (by omega))
  rw [show m + 1 + (n - (m + 1)) = n from by omega, sT_s, sT_s] at u
  have b1 := sT_b (e := e) (f := f) m hf
  have b2 := sT_b (e := e) (f := g) m hg
  have hp := tn_pos (e * m)
  have m1 := Int.mul_le_mul_of_nonneg_right (show f m + 1 ≤ g m by omega) (Int.le_of_lt hp)
  rw [Int.add_mul, Int.one_mul] at m1
  omega
theorem su_st {P B s0 a0 b0 bw x y n q : Int} (h : s0 - bw * P = a0 - b0) (hn : n - q * B = x - y - bw) : s0 + n * P - q * (P * B) = (a0 + x * P) - (b0 + y * P) := by
  have h2 : (n - q * B) * P = (x - y - bw) * P := by rw [hn]
  rw [Int.sub_mul, Int.sub_mul, Int.sub_mul] at h2
  have e1 : q * (P * B) = q * B * P := by rw [Int.mul_assoc, Int.mul_comm B P]
  rw [e1]
  omega
theorem ad_st {P B s0 a0 b0 cy x y n q : Int} (h : s0 + cy * P = a0 + b0) (hn : n + q * B = x + y + cy) : s0 + n * P + q * (P * B) = (a0 + x * P) + (b0 + y * P) := by
  have h2 : (n + q * B) * P = (x + y + cy) * P := by rw [hn]
  rw [Int.add_mul, Int.add_mul, Int.add_mul] at h2
  have e1 : q * (P * B) = q * B * P := by rw [Int.mul_assoc, Int.mul_comm B P]
  rw [e1]
  omega
/-- a step of a division from ahead -/
theorem dv_st {P B D U O q r rs o : Int} (h : D * U + rs * (P * B) = O) (hq : r + q * D = rs * B + o) : D * (U + q * P) + r * P = O + o * P := by
  have h2 : (r + q * D) * P = (rs * B + o) * P := by rw [hq]
  rw [Int.add_mul, Int.add_mul] at h2
  have e1 : rs * (P * B) = rs * B * P := by rw [Int.mul_assoc, Int.mul_comm B P]
  have e2 : D * (q * P) = q * D * P := by rw [← Int.mul_assoc, Int.mul_comm D q]
  rw [Int.mul_add, e2]
  rw [e1] at h
  omega
/-- copying within a row of longs -/
def uQ (J : Nat → Nat → Int64) (c sp dp n : Nat) : Nat → Nat → Int64 := va_up J c (va_cpy (J c) (J c) sp dp n)
theorem uQ_c (J : Nat → Nat → Int64) {c c' : Nat} (sp dp n q : Nat) (h : c' ≠ c) : uQ J c sp dp n c' q = J c' q := congrFun (if_neg h : va_up J c (va_cpy (J c) (J c) sp dp n) c' = J c') q
theorem uQ_s (J : Nat → Nat → Int64) (c sp dp n q : Nat) : uQ J c sp dp n c q = va_cpy (J c) (J c) sp dp n q := congrFun (if_pos rfl : va_up J c (va_cpy (J c) (J c) sp dp n) c = va_cpy (J c) (J c) sp dp n) q
theorem uQ_i (J : Nat → Nat → Int64) {c sp dp n i : Nat} (h : i < n) : uQ J c sp dp n c (dp + i) = J c (sp + i) := by
  rw [uQ_s, pk_cpy_in (by omega) (by omega)]
  congr 1
  omega
theorem uQ_o (J : Nat → Nat → Int64) {c sp dp n q : Nat} (h : q < dp ∨ dp + n ≤ q) : uQ J c sp dp n c q = J c q := by
  rw [uQ_s, pk_cpy_out h]
theorem i32_nlt {x : Int32} (h : 0 ≤ x.toInt) : ¬ x < 0 := fun z => by
  have := Int32.lt_iff_toInt_lt.mp z
  rw [show (0 : Int32).toInt = 0 from by decide] at this
  omega
theorem ev_cpL {L : Nat} {xs : Nat → Int32} {d j pc : Nat} {lv st : List Value} {h' : xH} {v : Option Value} {i0 b w c n0 : Nat} {n dp sp : Int32} {I : Nat → Nat → Int32} {J : Nat → Nat → Int64} {R : Nat → Nat → Nat} (hq : xins j pc = some (.invokestatic i0, 3, 901, b, w)) (hst : st = [.int n, .int dp, .ref c, .int sp, .ref c]) (ho : ∀ f : FieldType → Nat → Option xR, xarr (124, I, J, R) c f = f .long n0) (h1 : 0 ≤ sp.toInt) (h2 : 0 ≤ dp.toInt) (h3 : 0 ≤ n.toInt) (h4 : sp.toNatClampNeg + n.toNatClampNeg ≤ n0) (h5 : dp.toNatClampNeg + n.toNatClampNeg ≤ n0) (hk : xEv L xs (d + 1) j (pc + 3) lv [] (124, I, uQ J c sp.toNatClampNeg dp.toNatClampNeg n.toNatClampNeg, R) v h') : xEv L xs (d + 1) j pc lv st (124, I, J, R) v h' := by
  subst hst
  refine ev_step hq ?_ hk
  show x1 3 3 (if (124 : Nat) = xN then (if (([] : List Value).map fun v => v.category).sum ≤ 8 then xarr (124, I, J, R) c fun t n0 => xarr (124, I, J, R) c fun t1 n1 =>
      if sp < 0 ∨ dp < 0 ∨ n < 0 ∨ n0 < sp.toNatClampNeg + n.toNatClampNeg ∨ n1 < dp.toNatClampNeg + n.toNatClampNeg then none else
      bif xisI t && xisI t1 then xgo (pc + 3) lv [] (xcpyI (124, I, J, R) c c sp.toNatClampNeg dp.toNatClampNeg n.toNatClampNeg) else
      bif xisJ t && xisJ t1 then xgo (pc + 3) lv [] (xcpyL (124, I, J, R) c c sp.toNatClampNeg dp.toNatClampNeg n.toNatClampNeg) else none else none) else none) = _
  rw [if_pos (show (124 : Nat) = xN from rfl), if_pos (show (([] : List Value).map fun v => v.category).sum ≤ 8 from by decide), ho, ho, if_neg (by
    rintro (z | z | z | z | z)
    · exact i32_nlt h1 z
    · exact i32_nlt h2 z
    · exact i32_nlt h3 z
    · omega
    · omega)]
  rfl
theorem ix9 {p i : Int32} {pN iN : Nat} (hp : p.toInt = pN) (hi : i.toInt = iN) (h9 : pN < 9) (h9' : iN < 9) : 0 ≤ ((p * 9) + i).toInt ∧ ((p * 9) + i).toInt < 81 ∧ ((p * 9) + i).toNatClampNeg = 9 * pN + iN := by
  have e9 : (9 : Int32).toInt = 9 := by decide
  have e1 : (p * 9).toInt = 9 * pN := by rw [i_mul (by rw [e9]; omega) (by rw [e9]; omega), e9]; omega
  have e2 : ((p * 9) + i).toInt = 9 * pN + iN := by rw [i_add (by omega) (by omega)]; omega
  have ec := clamp_s (i := (p * 9) + i) (by omega)
  refine ⟨by omega, by omega, by omega⟩
theorem ix90 {p : Int32} {pN : Nat} (hp : p.toInt = pN) (h9 : pN < 9) : 0 ≤ (p * 9).toInt ∧ (p * 9).toInt < 81 ∧ (p * 9).toNatClampNeg = 9 * pN := by
  have e9 : (9 : Int32).toInt = 9 := by decide
  have e1 : (p * 9).toInt = 9 * pN := by rw [i_mul (by rw [e9]; omega) (by rw [e9]; omega), e9]; omega
  have ec := clamp_s (i := p * 9) (by omega)
  refine ⟨by omega, by omega, by omega⟩
/-! the class's rows -/
def cF (J : Nat → Nat → Int64) (un q : Nat) : Nat → Int := fun j => (J 54 (9 * q + (un - 1 - j))).toInt
noncomputable def cV (J : Nat → Nat → Int64) (un q : Nat) : Int := sT 16 (cF J un q) un
def cD (J : Nat → Nat → Int64) (q : Nat) : Prop := ∀ i, i < 9 → 0 ≤ (J 54 (9 * q + i)).toInt ∧ (J 54 (9 * q + i)).toInt < 10000000000000000
/-- nothing behind the limbs in use -/
def cZ (J : Nat → Nat → Int64) (un q : Nat) : Prop := ∀ i, un ≤ i → i < 9 → (J 54 (9 * q + i)).toInt = 0
theorem cF_d {J : Nat → Nat → Int64} {un q : Nat} (h : cD J q) (h9 : un ≤ 9) : ∀ j, j < un → 0 ≤ cF J un q j ∧ cF J un q j < tn 16 := fun j hj => by
  rw [tn_16]
  exact h (un - 1 - j) (by omega)
theorem cV_b {J : Nat → Nat → Int64} {un q : Nat} (h : cD J q) (h9 : un ≤ 9) : 0 ≤ cV J un q ∧ cV J un q < tn (16 * un) := sT_b un (cF_d h h9)
theorem cF_u {J : Nat → Nat → Int64} {un q jN : Nat} {x : Int64} (hj : jN < un) : sT 16 (cF (uL J 54 (9 * q + (un - 1 - jN)) x) un q) jN = sT 16 (cF J un q) jN := sT_c _ (fun i hi => by
  show ((uL J 54 (9 * q + (un - 1 - jN)) x) 54 (9 * q + (un - 1 - i))).toInt = _
  rw [uL_n _ _ (by omega)]
  rfl)
theorem cF_s {J : Nat → Nat → Int64} {un q jN : Nat} {x : Int64} : cF (uL J 54 (9 * q + (un - 1 - jN)) x) un q jN = x.toInt := by
  show ((uL J 54 (9 * q + (un - 1 - jN)) x) 54 (9 * q + (un - 1 - jN))).toInt = _
  rw [uL_s]
theorem cD_u {J : Nat → Nat → Int64} {q k : Nat} {x : Int64} (h : cD J q) (h0 : 0 ≤ x.toInt) (h1 : x.toInt < 10000000000000000) : cD (uL J 54 (9 * q + k) x) q := by
  intro i hi
  by_cases e : i = k
  · rw [e, uL_s]
    exact ⟨h0, h1⟩
  · rw [uL_n _ _ (by omega)]
    exact h i hi
set_option maxRecDepth 20000 in
theorem qla {L : Nat} {xs : Nat → Int32} {d : Nat} {I : Nat → Nat → Int32} {J : Nat → Nat → Int64} {R : Nat → Nat → Nat} {a b : Int64} (hG : aGd R) (b1 : (lg_cmp a b).toInt < 0) : xEv L xs d 73 0 [.long a, xmk, .long b, xmk] [] (124, I, J, R) (some (.int (-1))) (124, I, J, R) := by
  refine ev_go 3 (pc1 := 3) (lv1 := [.long a, xmk, .long b, xmk]) (st1 := [.int (lg_cmp a b)]) (h1 := (124, I, J, R)) rfl ?_
  refine ev_br (b1 := false) rfl rfl (xcd_nge (x := (lg_cmp a b)) (y := 0) (by rw [show ((0 : Int32)).toInt = 0 from by decide]; first | exact b1 | omega)) ?_
  refine ev_go 2 (pc1 := 21) (lv1 := [.long a, xmk, .long b, xmk]) (st1 := [.int (-1)]) (h1 := (124, I, J, R)) rfl ?_
  exact ev_ret rfl rfl
set_option maxRecDepth 20000 in
theorem qlb {L : Nat} {xs : Nat → Int32} {d : Nat} {I : Nat → Nat → Int32} {J : Nat → Nat → Int64} {R : Nat → Nat → Nat} {a b : Int64} (hG : aGd R) (b1 : (lg_cmp a b).toInt ≥ 0) (b2 : (lg_cmp a b).toInt = 0) : xEv L xs d 73 0 [.long a, xmk, .long b, xmk] [] (124, I, J, R) (some (.int 0)) (124, I, J, R) := by
  refine ev_go 3 (pc1 := 3) (lv1 := [.long a, xmk, .long b, xmk]) (st1 := [.int (lg_cmp a b)]) (h1 := (124, I, J, R)) rfl ?_
  refine ev_br (b1 := true) rfl rfl (xcd_ge (x := (lg_cmp a b)) (y := 0) (by rw [show ((0 : Int32)).toInt = 0 from by decide]; first | exact b1 | omega)) ?_
  refine ev_go 3 (pc1 := 13) (lv1 := [.long a, xmk, .long b, xmk]) (st1 := [.int (lg_cmp a b)]) (h1 := (124, I, J, R)) rfl ?_
  refine ev_br (b1 := false) rfl rfl (xcd_nne (x := (lg_cmp a b)) (y := 0) (by rw [show ((0 : Int32)).toInt = 0 from by decide]; first | exact b2 | omega)) ?_
  refine ev_go 2 (pc1 := 21) (lv1 := [.long a, xmk, .long b, xmk]) (st1 := [.int 0]) (h1 := (124, I, J, R)) rfl ?_
  exact ev_ret rfl rfl
set_option maxRecDepth 20000 in
theorem qlc {L : Nat} {xs : Nat → Int32} {d : Nat} {I : Nat → Nat → Int32} {J : Nat → Nat → Int64} {R : Nat → Nat → Nat} {a b : Int64} (hG : aGd R) (b1 : (lg_cmp a b).toInt ≥ 0) (b2 : (lg_cmp a b).toInt ≠ 0) : xEv L xs d 73 0 [.long a, xmk, .long b, xmk] [] (124, I, J, R) (some (.int 1)) (124, I, J, R) := by
  refine ev_go 3 (pc1 := 3) (lv1 := [.long a, xmk, .long b, xmk]) (st1 := [.int (lg_cmp a b)]) (h1 := (124, I, J, R)) rfl ?_
  refine ev_br (b1 := true) rfl rfl (xcd_ge (x := (lg_cmp a b)) (y := 0) (by rw [show ((0 : Int32)).toInt = 0 from by decide]; first | exact b1 | omega)) ?_
  refine ev_go 3 (pc1 := 13) (lv1 := [.long a, xmk, .long b, xmk]) (st1 := [.int (lg_cmp a b)]) (h1 := (124, I, J, R)) rfl ?_
  refine ev_br (b1 := true) rfl rfl (xcd_ne (x := (lg_cmp a b)) (y := 0) (by rw [show ((0 : Int32)).toInt = 0 from by decide]; first | exact b2 | omega)) ?_
  refine ev_go 1 (pc1 := 21) (lv1 := [.long a, xmk, .long b, xmk]) (st1 := [.int 1]) (h1 := (124, I, J, R)) rfl ?_
  exact ev_ret rfl rfl
set_option maxRecDepth 20000 in
theorem qc_s {L : Nat} {xs : Nat → Int32} {d : Nat} {I : Nat → Nat → Int32} {J : Nat → Nat → Int64} {R : Nat → Nat → Nat} {p q : Int32} (hG : aGd R) (b1 : p.toInt ≥ 0) (b2 : p.toInt < 9) (b3 : q.toInt ≥ 0) (b4 : q.toInt < 9) {v : Option Value} {h' : xH} (hk : xEv L xs d 72 24 [.ref 53, .int p, .int q, .int 0, xmk] [] (124, I, J, R) v h') : xEv L xs d 72 0 [.ref 53, .int p, .int q, xmk, xmk] [] (124, I, J, R) v h' := by
  refine ev_go 1 (pc1 := 1) (lv1 := [.ref 53, .int p, .int q, xmk, xmk]) (st1 := [.int p]) (h1 := (124, I, J, R)) rfl ?_
  refine ev_br (b1 := false) rfl rfl (xcd_nlt (x := p) (y := 0) (by rw [show ((0 : Int32)).toInt = 0 from by decide]; first | exact b1 | omega)) ?_
  refine ev_go 2 (pc1 := 7) (lv1 := [.ref 53, .int p, .int q, xmk, xmk]) (st1 := [.int 9, .int p]) (h1 := (124, I, J, R)) rfl ?_
  refine ev_br (b1 := false) rfl rfl (xcd_nge (x := p) (y := 9) (by rw [show ((9 : Int32)).toInt = 9 from by decide]; first | exact b2 | omega)) ?_
  refine ev_go 1 (pc1 := 11) (lv1 := [.ref 53, .int p, .int q, xmk, xmk]) (st1 := [.int q]) (h1 := (124, I, J, R)) rfl ?_
  refine ev_br (b1 := false) rfl rfl (xcd_nlt (x := q) (y := 0) (by rw [show ((0 : Int32)).toInt = 0 from by decide]; first | exact b3 | omega)) ?_
  refine ev_go 2 (pc1 := 17) (lv1 := [.ref 53, .int p, .int q, xmk, xmk]) (st1 := [.int 9, .int q]) (h1 := (124, I, J, R)) rfl ?_
  refine ev_br (b1 := true) rfl rfl (xcd_lt (x := q) (y := 9) (by rw [show ((9 : Int32)).toInt = 9 from by decide]; first | exact b4 | omega)) ?_
  refine ev_go 2 (pc1 := 24) (lv1 := [.ref 53, .int p, .int q, .int 0, xmk]) (st1 := []) (h1 := (124, I, J, R)) rfl ?_
  exact hk
set_option maxRecDepth 20000 in
theorem qc_e {L : Nat} {xs : Nat → Int32} {d : Nat} {I : Nat → Nat → Int32} {J : Nat → Nat → Int64} {R : Nat → Nat → Nat} {p q i : Int32} {w4 : Value} (hG : aGd R) (b1 : i.toInt ≥ (I 53 1).toInt) : xEv L xs d 72 24 [.ref 53, .int p, .int q, .int i, w4] [] (124, I, J, R) (some (.int 0)) (124, I, J, R) := by
  refine ev_go 3 (pc1 := 29) (lv1 := [.ref 53, .int p, .int q, .int i, w4]) (st1 := [.int (I 53 1), .int i]) (h1 := (124, I, J, R)) rfl ?_
  refine ev_br (b1 := true) rfl rfl (xcd_ge (x := i) (y := (I 53 1)) (by first | exact b1 | omega)) ?_
  refine ev_go 1 (pc1 := 74) (lv1 := [.ref 53, .int p, .int q, .int i, w4]) (st1 := [.int 0]) (h1 := (124, I, J, R)) rfl ?_
  exact ev_ret rfl rfl
set_option maxRecDepth 20000 in
theorem qc_n {L : Nat} {xs : Nat → Int32} {d : Nat} {I : Nat → Nat → Int32} {J : Nat → Nat → Int64} {R : Nat → Nat → Nat} {p q i o : Int32} {w4 : Value} (hG : aGd R) (b1 : i.toInt < (I 53 1).toInt) (n1 : 0 ≤ ((p * 9) + i).toInt) (m1 : ((p * 9) + i).toInt < 81) (n2 : 0 ≤ ((q * 9) + i).toInt) (m2 : ((q * 9) + i).toInt < 81) (c1 : xEv L xs d 73 0 [.long (J 54 ((p * 9) + i).toNatClampNeg), xmk, .long (J 54 ((q * 9) + i).toNatClampNeg), xmk] [] (124, I, J, R) (some (.int o)) (124, I, J, R)) (b2 : o.toInt ≠ 0) : xEv L xs (d + 1) 72 24 [.ref 53, .int p, .int q, .int i, w4] [] (124, I, J, R) (some (.int o)) (124, I, J, R) := by
  refine ev_go 3 (pc1 := 29) (lv1 := [.ref 53, .int p, .int q, .int i, w4]) (st1 := [.int (I 53 1), .int i]) (h1 := (124, I, J, R)) rfl ?_
  refine ev_br (b1 := false) rfl rfl (xcd_nge (x := i) (y := (I 53 1)) (by first | exact b1 | omega)) ?_
  refine ev_go 1 (pc1 := 33) (lv1 := [.ref 53, .int p, .int q, .int i, w4]) (st1 := [.ref 53]) (h1 := (124, I, J, R)) rfl ?_
  refine ev_gf (c := 53) (t := 54) (X := R 53 0) rfl rfl (fun _ => rfl) rfl (hG 53 0 54 rfl rfl) ?_
  refine ev_go 5 (pc1 := 42) (lv1 := [.ref 53, .int p, .int q, .int i, w4]) (st1 := [.int ((p * 9) + i), .ref 54]) (h1 := (124, I, J, R)) rfl ?_
  refine ev_lld (n := 81) rfl rfl (fun _ => rfl) n1 m1 ?_
  refine ev_go 1 (pc1 := 44) (lv1 := [.ref 53, .int p, .int q, .int i, w4]) (st1 := [.ref 53, .long (J 54 ((p * 9) + i).toNatClampNeg)]) (h1 := (124, I, J, R)) rfl ?_
  refine ev_gf (c := 53) (t := 54) (X := R 53 0) rfl rfl (fun _ => rfl) rfl (hG 53 0 54 rfl rfl) ?_
  refine ev_go 5 (pc1 := 53) (lv1 := [.ref 53, .int p, .int q, .int i, w4]) (st1 := [.int ((q * 9) + i), .ref 54, .long (J 54 ((p * 9) + i).toNatClampNeg)]) (h1 := (124, I, J, R)) rfl ?_
  refine ev_lld (n := 81) rfl rfl (fun _ => rfl) n2 m2 ?_
  refine ev_call (v1 := (some (.int o))) (h1 := (124, I, J, R)) rfl rfl c1 ?_
  refine ev_go 2 (pc1 := 61) (lv1 := [.ref 53, .int p, .int q, .int i, .int o]) (st1 := [.int o]) (h1 := (124, I, J, R)) rfl ?_
  refine ev_br (b1 := false) rfl rfl (xcd_neq (x := o) (y := 0) (by rw [show ((0 : Int32)).toInt = 0 from by decide]; first | exact b2 | omega)) ?_
  refine ev_go 1 (pc1 := 66) (lv1 := [.ref 53, .int p, .int q, .int i, .int o]) (st1 := [.int o]) (h1 := (124, I, J, R)) rfl ?_
  exact ev_ret rfl rfl
set_option maxRecDepth 20000 in
theorem qc_l {L : Nat} {xs : Nat → Int32} {d : Nat} {I : Nat → Nat → Int32} {J : Nat → Nat → Int64} {R : Nat → Nat → Nat} {p q i o : Int32} {w4 : Value} (hG : aGd R) (b1 : i.toInt < (I 53 1).toInt) (n1 : 0 ≤ ((p * 9) + i).toInt) (m1 : ((p * 9) + i).toInt < 81) (n2 : 0 ≤ ((q * 9) + i).toInt) (m2 : ((q * 9) + i).toInt < 81) (c1 : xEv L xs d 73 0 [.long (J 54 ((p * 9) + i).toNatClampNeg), xmk, .long (J 54 ((q * 9) + i).toNatClampNeg), xmk] [] (124, I, J, R) (some (.int o)) (124, I, J, R)) (b2 : o.toInt = 0) {v : Option Value} {h' : xH} (hk : xEv L xs (d + 1) 72 24 [.ref 53, .int p, .int q, .int (i + 1), .int o] [] (124, I, J, R) v h') : xEv L xs (d + 1) 72 24 [.ref 53, .int p, .int q, .int i, w4] [] (124, I, J, R) v h' := by
  refine ev_go 3 (pc1 := 29) (lv1 := [.ref 53, .int p, .int q, .int i, w4]) (st1 := [.int (I 53 1), .int i]) (h1 := (124, I, J, R)) rfl ?_
  refine ev_br (b1 := false) rfl rfl (xcd_nge (x := i) (y := (I 53 1)) (by first | exact b1 | omega)) ?_
  refine ev_go 1 (pc1 := 33) (lv1 := [.ref 53, .int p, .int q, .int i, w4]) (st1 := [.ref 53]) (h1 := (124, I, J, R)) rfl ?_
  refine ev_gf (c := 53) (t := 54) (X := R 53 0) rfl rfl (fun _ => rfl) rfl (hG 53 0 54 rfl rfl) ?_
  refine ev_go 5 (pc1 := 42) (lv1 := [.ref 53, .int p, .int q, .int i, w4]) (st1 := [.int ((p * 9) + i), .ref 54]) (h1 := (124, I, J, R)) rfl ?_
  refine ev_lld (n := 81) rfl rfl (fun _ => rfl) n1 m1 ?_
  refine ev_go 1 (pc1 := 44) (lv1 := [.ref 53, .int p, .int q, .int i, w4]) (st1 := [.ref 53, .long (J 54 ((p * 9) + i).toNatClampNeg)]) (h1 := (124, I, J, R)) rfl ?_
  refine ev_gf (c := 53) (t := 54) (X := R 53 0) rfl rfl (fun _ => rfl) rfl (hG 53 0 54 rfl rfl) ?_
  refine ev_go 5 (pc1 := 53) (lv1 := [.ref 53, .int p, .int q, .int i, w4]) (st1 := [.int ((q * 9) + i), .ref 54, .long (J 54 ((p * 9) + i).toNatClampNeg)]) (h1 := (124, I, J, R)) rfl ?_
  refine ev_lld (n := 81) rfl rfl (fun _ => rfl) n2 m2 ?_
  refine ev_call (v1 := (some (.int o))) (h1 := (124, I, J, R)) rfl rfl c1 ?_
  refine ev_go 2 (pc1 := 61) (lv1 := [.ref 53, .int p, .int q, .int i, .int o]) (st1 := [.int o]) (h1 := (124, I, J, R)) rfl ?_
  refine ev_br (b1 := true) rfl rfl (xcd_eq (x := o) (y := 0) (by rw [show ((0 : Int32)).toInt = 0 from by decide]; first | exact b2 | omega)) ?_
  refine ev_go 2 (pc1 := 24) (lv1 := [.ref 53, .int p, .int q, .int (i + 1), .int o]) (st1 := []) (h1 := (124, I, J, R)) rfl ?_
  exact hk
theorem ql_run {L : Nat} {xs : Nat → Int32} {d : Nat} {I : Nat → Nat → Int32} {J : Nat → Nat → Int64} {R : Nat → Nat → Nat} (hG : aGd R) (a b : Int64) : ∃ o : Int32, xEv L xs d 73 0 [.long a, xmk, .long b, xmk] [] (124, I, J, R) (some (.int o)) (124, I, J, R) ∧ ((o.toInt < 0 ∧ a.toInt < b.toInt) ∨ (o.toInt = 0 ∧ a = b) ∨ (0 < o.toInt ∧ b.toInt < a.toInt)) := by
  by_cases h1 : (lg_cmp a b).toInt < 0
  · exact ⟨-1, qla hG h1, Or.inl ⟨by decide, lg_lt.mp h1⟩⟩
  · by_cases h2 : (lg_cmp a b).toInt = 0
    · exact ⟨0, qlb hG (by omega) h2, Or.inr (Or.inl ⟨by decide, lg_eq.mp h2⟩)⟩
    · exact ⟨1, qlc hG (by omega) h2, Or.inr (Or.inr ⟨by decide, lg_gt.mp (by omega)⟩)⟩
theorem qc_l2 {L : Nat} {xs : Nat → Int32} {d : Nat} {I : Nat → Nat → Int32} {J : Nat → Nat → Int64} {R : Nat → Nat → Nat} (hG : aGd R) {p q : Int32} {un pN qN : Nat} (hu : (I 53 1).toInt = un) (h1 : 1 ≤ un) (h9 : un ≤ 9) (hp : p.toInt = pN) (hq : q.toInt = qN) (p9 : pN < 9) (q9 : qN < 9) (dp : cD J pN) (dq : cD J qN) : ∀ (f iN : Nat) (i : Int32) (w4 : Value), iN + f = un → i.toInt = iN → (∀ k, k < iN → J 54 (9 * pN + k) = J 54 (9 * qN + k)) →
    ∃ o : Int32, xEv L xs (d + 1) 72 24 [.ref 53, .int p, .int q, .int i, w4] [] (124, I, J, R) (some (.int o)) (124, I, J, R) ∧ ((o.toInt < 0 ∧ cV J un pN < cV J un qN) ∨ (o.toInt = 0 ∧ cV J un pN = cV J un qN) ∨ (0 < o.toInt ∧ cV J un qN < cV J un pN)) := by
  intro f
  induction f with
  | zero =>
    intro iN i w4 hi ei hE
    refine ⟨0, qc_e hG (by omega), Or.inr (Or.inl ⟨by decide, sT_c _ (fun j hj => ?_)⟩)⟩
    show (J 54 (9 * pN + (un - 1 - j))).toInt = (J 54 (9 * qN + (un - 1 - j))).toInt
    rw [hE (un - 1 - j) (by omega)]
  | succ f ih =>
    intro iN i w4 hi ei hE
    have hi' : (i + 1).toInt = (iN + 1 : Nat) := by rw [i_add1 (by omega)]; omega
    obtain ⟨a1, a2, a3⟩ := ix9 hp ei p9 (by omega)
    obtain ⟨b1, b2, b3⟩ := ix9 hq ei q9 (by omega)
    obtain ⟨o, x1, x2⟩ := ql_run (L := L) (xs := xs) (d := d) (I := I) (J := J) hG (J 54 (9 * pN + iN)) (J 54 (9 * qN + iN))
    have x1' : xEv L xs d 73 0 [.long (J 54 ((p * 9) + i).toNatClampNeg), xmk, .long (J 54 ((q * 9) + i).toNatClampNeg), xmk] [] (124, I, J, R) (some (.int o)) (124, I, J, R) := by
      rw [a3, b3]
      exact x1
    have up : ∀ k, un - 1 - iN < k → k < un → cF J un pN k = cF J un qN k := fun k k1 k2 => by
      show (J 54 (9 * pN + (un - 1 - k))).toInt = (J 54 (9 * qN + (un - 1 - k))).toInt
      rw [hE (un - 1 - k) (by omega)]
    have em : un - 1 - (un - 1 - iN) = iN := by omega
    have f1 : cF J un pN (un - 1 - iN) = (J 54 (9 * pN + iN)).toInt := by
      show (J 54 (9 * pN + (un - 1 - (un - 1 - iN)))).toInt = _
      rw [em]
    have f2 : cF J un qN (un - 1 - iN) = (J 54 (9 * qN + iN)).toInt := by
      show (J 54 (9 * qN + (un - 1 - (un - 1 - iN)))).toInt = _
      rw [em]
    rcases x2 with ⟨o1, lt⟩ | ⟨o1, eq⟩ | ⟨o1, gt⟩
    · exact ⟨o, qc_n hG (by omega) a1 a2 b1 b2 x1' (by omega), Or.inl ⟨o1, sT_lt (m := un - 1 - iN) (by omega) up (by rw [f1, f2]; exact lt) (fun k hk => cF_d dp h9 k (by omega)) (fun k hk => cF_d dq h9 k (by omega))⟩⟩
    · obtain ⟨o', y1, y2⟩ := ih (iN + 1) (i + 1) (.int o) (by omega) hi' (fun k hk => by
        by_cases e : k = iN
        · rw [e]
          exact eq
        · exact hE k (by omega))
      exact ⟨o', qc_l hG (by omega) a1 a2 b1 b2 x1' (by omega) y1, y2⟩
    · exact ⟨o, qc_n hG (by omega) a1 a2 b1 b2 x1' (by omega), Or.inr (Or.inr ⟨o1, sT_lt (m := un - 1 - iN) (by omega) (fun k k1 k2 => (up k k1 k2).symm) (by rw [f1, f2]; exact gt) (fun k hk => cF_d dq h9 k (by omega)) (fun k hk => cF_d dp h9 k (by omega))⟩)⟩
theorem qc_run {L : Nat} {xs : Nat → Int32} {d : Nat} {I : Nat → Nat → Int32} {J : Nat → Nat → Int64} {R : Nat → Nat → Nat} (hG : aGd R) {p q : Int32} {un pN qN : Nat} (hu : (I 53 1).toInt = un) (h1 : 1 ≤ un) (h9 : un ≤ 9) (hp : p.toInt = pN) (hq : q.toInt = qN) (p9 : pN < 9) (q9 : qN < 9) (dp : cD J pN) (dq : cD J qN) : ∃ o : Int32, xEv L xs (d + 1) 72 0 [.ref 53, .int p, .int q, xmk, xmk] [] (124, I, J, R) (some (.int o)) (124, I, J, R) ∧ ((o.toInt < 0 ∧ cV J un pN < cV J un qN) ∨ (o.toInt = 0 ∧ cV J un pN = cV J un qN) ∨ (0 < o.toInt ∧ cV J un qN < cV J un pN)) := by
  obtain ⟨o, x1, x2⟩ := qc_l2 (L := L) (xs := xs) (d := d) hG hu h1 h9 hp hq p9 q9 dp dq un 0 0 xmk (by omega) (by decide) (fun k hk => absurd hk (by omega))
  exact ⟨o, qc_s hG (by omega) (by omega) (by omega) (by omega) x1, x2⟩
set_option maxRecDepth 20000 in
theorem qy_s {L : Nat} {xs : Nat → Int32} {d : Nat} {I : Nat → Nat → Int32} {J : Nat → Nat → Int64} {R : Nat → Nat → Nat} {a b : Int32} (hG : aGd R) (b1 : a.toInt ≥ 0) (b2 : a.toInt < 9) (b3 : b.toInt ≥ 0) (b4 : b.toInt < 9) (n1 : 0 ≤ (a * 9).toInt) (m1 : 0 ≤ (b * 9).toInt) (o1 : 0 ≤ (I 53 1).toInt) (p1 : (a * 9).toNatClampNeg + (I 53 1).toNatClampNeg ≤ 81) (q1 : (b * 9).toNatClampNeg + (I 53 1).toNatClampNeg ≤ 81) : xEv L xs (d + 1) 75 0 [.ref 53, .int a, .int b] [] (124, I, J, R) none (124, I, (uQ J 54 (a * 9).toNatClampNeg (b * 9).toNatClampNeg (I 53 1).toNatClampNeg), R) := by
  refine ev_go 1 (pc1 := 1) (lv1 := [.ref 53, .int a, .int b]) (st1 := [.int a]) (h1 := (124, I, J, R)) rfl ?_
  refine ev_br (b1 := false) rfl rfl (xcd_nlt (x := a) (y := 0) (by rw [show ((0 : Int32)).toInt = 0 from by decide]; first | exact b1 | omega)) ?_
  refine ev_go 2 (pc1 := 7) (lv1 := [.ref 53, .int a, .int b]) (st1 := [.int 9, .int a]) (h1 := (124, I, J, R)) rfl ?_
  refine ev_br (b1 := false) rfl rfl (xcd_nge (x := a) (y := 9) (by rw [show ((9 : Int32)).toInt = 9 from by decide]; first | exact b2 | omega)) ?_
  refine ev_go 1 (pc1 := 11) (lv1 := [.ref 53, .int a, .int b]) (st1 := [.int b]) (h1 := (124, I, J, R)) rfl ?_
  refine ev_br (b1 := false) rfl rfl (xcd_nlt (x := b) (y := 0) (by rw [show ((0 : Int32)).toInt = 0 from by decide]; first | exact b3 | omega)) ?_
  refine ev_go 2 (pc1 := 17) (lv1 := [.ref 53, .int a, .int b]) (st1 := [.int 9, .int b]) (h1 := (124, I, J, R)) rfl ?_
  refine ev_br (b1 := false) rfl rfl (xcd_nge (x := b) (y := 9) (by rw [show ((9 : Int32)).toInt = 9 from by decide]; first | exact b4 | omega)) ?_
  refine ev_go 1 (pc1 := 21) (lv1 := [.ref 53, .int a, .int b]) (st1 := [.ref 53]) (h1 := (124, I, J, R)) rfl ?_
  refine ev_gf (c := 53) (t := 54) (X := R 53 0) rfl rfl (fun _ => rfl) rfl (hG 53 0 54 rfl rfl) ?_
  refine ev_go 4 (pc1 := 29) (lv1 := [.ref 53, .int a, .int b]) (st1 := [.ref 53, .int (a * 9), .ref 54]) (h1 := (124, I, J, R)) rfl ?_
  refine ev_gf (c := 53) (t := 54) (X := R 53 0) rfl rfl (fun _ => rfl) rfl (hG 53 0 54 rfl rfl) ?_
  refine ev_go 5 (pc1 := 40) (lv1 := [.ref 53, .int a, .int b]) (st1 := [.int (I 53 1), .int (b * 9), .ref 54, .int (a * 9), .ref 54]) (h1 := (124, I, J, R)) rfl ?_
  refine ev_cpL (c := 54) (n0 := 81) rfl rfl (fun _ => rfl) n1 m1 o1 p1 q1 ?_
  exact ev_ret rfl rfl
theorem qy_run {L : Nat} {xs : Nat → Int32} {d : Nat} {I : Nat → Nat → Int32} {J : Nat → Nat → Int64} {R : Nat → Nat → Nat} (hG : aGd R) {a b : Int32} {un aN bN : Nat} (hu : (I 53 1).toInt = un) (h9 : un ≤ 9) (ha : a.toInt = aN) (hb : b.toInt = bN) (a9 : aN < 9) (b9 : bN < 9) : ∃ J', xEv L xs (d + 1) 75 0 [.ref 53, .int a, .int b] [] (124, I, J, R) none (124, I, J', R) ∧ (∀ i, i < un → J' 54 (9 * bN + i) = J 54 (9 * aN + i)) ∧ (∀ c q, ¬ (c = 54 ∧ 9 * bN ≤ q ∧ q < 9 * bN + un) → J' c q = J c q) := by
  obtain ⟨a1, a2, a3⟩ := ix90 ha a9
  obtain ⟨b1, b2, b3⟩ := ix90 hb b9
  have ec := clamp_s (i := I 53 1) (by omega)
  have eu : (I 53 1).toNatClampNeg = un := by omega
  have x := qy_s (L := L) (xs := xs) (d := d) (I := I) (J := J) (a := a) (b := b) hG (by omega) (by omega) (by omega) (by omega) a1 b1 (by omega) (by omega) (by omega)
  rw [a3, b3, eu] at x
  refine ⟨_, x, fun i hi => uQ_i J hi, fun c q hc => ?_⟩
  by_cases e : c = 54
  · subst e
    exact uQ_o J (by omega)
  · exact uQ_c J _ _ _ _ e
/-- what copying makes of the numbers -/
theorem cV_y {J J' : Nat → Nat → Int64} {un aN bN : Nat} (h : ∀ i, i < un → J' 54 (9 * bN + i) = J 54 (9 * aN + i)) : cV J' un bN = cV J un aN := sT_c _ (fun j hj => by
  show (J' 54 (9 * bN + (un - 1 - j))).toInt = (J 54 (9 * aN + (un - 1 - j))).toInt
  rw [h _ (by omega)])
theorem cV_e {J J' : Nat → Nat → Int64} {un q : Nat} (h : ∀ i, i < 9 → J' 54 (9 * q + i) = J 54 (9 * q + i)) (h9 : un ≤ 9) : cV J' un q = cV J un q := sT_c _ (fun j hj => by
  show (J' 54 (9 * q + (un - 1 - j))).toInt = (J 54 (9 * q + (un - 1 - j))).toInt
  rw [h _ (by omega)])
theorem cD_e {J J' : Nat → Nat → Int64} {q : Nat} (h : ∀ i, i < 9 → J' 54 (9 * q + i) = J 54 (9 * q + i)) (hd : cD J q) : cD J' q := fun i hi => by rw [h i hi]; exact hd i hi
theorem cZ_e {J J' : Nat → Nat → Int64} {un q : Nat} (h : ∀ i, un ≤ i → i < 9 → J' 54 (9 * q + i) = J 54 (9 * q + i)) (hd : cZ J un q) : cZ J' un q := fun i h1 hi => by rw [h i h1 hi]; exact hd i h1 hi
set_option maxRecDepth 20000 in
theorem qu_s {L : Nat} {xs : Nat → Int32} {d : Nat} {I : Nat → Nat → Int32} {J : Nat → Nat → Int64} {R : Nat → Nat → Nat} {w f : Int32} (hG : aGd R) (b1 : w.toInt ≥ 0) (b2 : w.toInt < 9) (b3 : f.toInt ≥ 0) (b4 : f.toInt < 9) {v : Option Value} {h' : xH} (hk : xEv L xs d 76 31 [.ref 53, .int w, .int f, .long 0, xmk, .int ((I 53 1) - 1), xmk, xmk] [] (124, I, J, R) v h') : xEv L xs d 76 0 [.ref 53, .int w, .int f, xmk, xmk, xmk, xmk, xmk] [] (124, I, J, R) v h' := by
  refine ev_go 1 (pc1 := 1) (lv1 := [.ref 53, .int w, .int f, xmk, xmk, xmk, xmk, xmk]) (st1 := [.int w]) (h1 := (124, I, J, R)) rfl ?_
  refine ev_br (b1 := false) rfl rfl (xcd_nlt (x := w) (y := 0) (by rw [show ((0 : Int32)).toInt = 0 from by decide]; first | exact b1 | omega)) ?_
  refine ev_go 2 (pc1 := 7) (lv1 := [.ref 53, .int w, .int f, xmk, xmk, xmk, xmk, xmk]) (st1 := [.int 9, .int w]) (h1 := (124, I, J, R)) rfl ?_
  refine ev_br (b1 := false) rfl rfl (xcd_nge (x := w) (y := 9) (by rw [show ((9 : Int32)).toInt = 9 from by decide]; first | exact b2 | omega)) ?_
  refine ev_go 1 (pc1 := 11) (lv1 := [.ref 53, .int w, .int f, xmk, xmk, xmk, xmk, xmk]) (st1 := [.int f]) (h1 := (124, I, J, R)) rfl ?_
  refine ev_br (b1 := false) rfl rfl (xcd_nlt (x := f) (y := 0) (by rw [show ((0 : Int32)).toInt = 0 from by decide]; first | exact b3 | omega)) ?_
  refine ev_go 2 (pc1 := 17) (lv1 := [.ref 53, .int w, .int f, xmk, xmk, xmk, xmk, xmk]) (st1 := [.int 9, .int f]) (h1 := (124, I, J, R)) rfl ?_
  refine ev_br (b1 := true) rfl rfl (xcd_lt (x := f) (y := 9) (by rw [show ((9 : Int32)).toInt = 9 from by decide]; first | exact b4 | omega)) ?_
  refine ev_go 7 (pc1 := 31) (lv1 := [.ref 53, .int w, .int f, .long 0, xmk, .int ((I 53 1) - 1), xmk, xmk]) (st1 := []) (h1 := (124, I, J, R)) rfl ?_
  exact hk
set_option maxRecDepth 20000 in
theorem qu_e {L : Nat} {xs : Nat → Int32} {d : Nat} {I : Nat → Nat → Int32} {J : Nat → Nat → Int64} {R : Nat → Nat → Nat} {w f i : Int32} {w6 : Value} {cy : Int64} (hG : aGd R) (b1 : i.toInt < 0) : xEv L xs d 76 31 [.ref 53, .int w, .int f, .long cy, xmk, .int i, w6, xmk] [] (124, I, J, R) none (124, I, J, R) := by
  refine ev_go 1 (pc1 := 33) (lv1 := [.ref 53, .int w, .int f, .long cy, xmk, .int i, w6, xmk]) (st1 := [.int i]) (h1 := (124, I, J, R)) rfl ?_
  refine ev_br (b1 := true) rfl rfl (xcd_lt (x := i) (y := 0) (by rw [show ((0 : Int32)).toInt = 0 from by decide]; first | exact b1 | omega)) ?_
  exact ev_ret rfl rfl
set_option maxRecDepth 20000 in
theorem qu_a {L : Nat} {xs : Nat → Int32} {d : Nat} {I : Nat → Nat → Int32} {J : Nat → Nat → Int64} {R : Nat → Nat → Nat} {w f i dx1 : Int32} {w6 : Value} {cy : Int64} (hG : aGd R) (b1 : i.toInt ≥ 0) (n1 : 0 ≤ ((f * 9) + i).toInt) (m1 : ((f * 9) + i).toInt < 81) (n2 : 0 ≤ ((w * 9) + i).toInt) (m2 : ((w * 9) + i).toInt < 81) (b2 : (lg_cmp (((J 54 ((f * 9) + i).toNatClampNeg) - (J 54 ((w * 9) + i).toNatClampNeg)) - cy) 0).toInt < 0) (n3 : 0 ≤ ((f * 9) + i).toInt) (m3 : ((f * 9) + i).toInt < 81) (i1 : i + (-1) = dx1) {v : Option Value} {h' : xH} (hk : xEv L xs d 76 31 [.ref 53, .int w, .int f, .long 1, xmk, .int dx1, .long (((J 54 ((f * 9) + i).toNatClampNeg) - (J 54 ((w * 9) + i).toNatClampNeg)) - cy), xmk] [] (124, I, (uL J 54 ((f * 9) + i).toNatClampNeg ((((J 54 ((f * 9) + i).toNatClampNeg) - (J 54 ((w * 9) + i).toNatClampNeg)) - cy) + (1 * 10000000000000000))), R) v h') : xEv L xs d 76 31 [.ref 53, .int w, .int f, .long cy, xmk, .int i, w6, xmk] [] (124, I, J, R) v h' := by
  refine ev_go 1 (pc1 := 33) (lv1 := [.ref 53, .int w, .int f, .long cy, xmk, .int i, w6, xmk]) (st1 := [.int i]) (h1 := (124, I, J, R)) rfl ?_
  refine ev_br (b1 := false) rfl rfl (xcd_nlt (x := i) (y := 0) (by rw [show ((0 : Int32)).toInt = 0 from by decide]; first | exact b1 | omega)) ?_
  refine ev_go 1 (pc1 := 37) (lv1 := [.ref 53, .int w, .int f, .long cy, xmk, .int i, w6, xmk]) (st1 := [.ref 53]) (h1 := (124, I, J, R)) rfl ?_
  refine ev_gf (c := 53) (t := 54) (X := R 53 0) rfl rfl (fun _ => rfl) rfl (hG 53 0 54 rfl rfl) ?_
  refine ev_go 5 (pc1 := 47) (lv1 := [.ref 53, .int w, .int f, .long cy, xmk, .int i, w6, xmk]) (st1 := [.int ((f * 9) + i), .ref 54]) (h1 := (124, I, J, R)) rfl ?_
  refine ev_lld (n := 81) rfl rfl (fun _ => rfl) n1 m1 ?_
  refine ev_go 1 (pc1 := 49) (lv1 := [.ref 53, .int w, .int f, .long cy, xmk, .int i, w6, xmk]) (st1 := [.ref 53, .long (J 54 ((f * 9) + i).toNatClampNeg)]) (h1 := (124, I, J, R)) rfl ?_
  refine ev_gf (c := 53) (t := 54) (X := R 53 0) rfl rfl (fun _ => rfl) rfl (hG 53 0 54 rfl rfl) ?_
  refine ev_go 5 (pc1 := 59) (lv1 := [.ref 53, .int w, .int f, .long cy, xmk, .int i, w6, xmk]) (st1 := [.int ((w * 9) + i), .ref 54, .long (J 54 ((f * 9) + i).toNatClampNeg)]) (h1 := (124, I, J, R)) rfl ?_
  refine ev_lld (n := 81) rfl rfl (fun _ => rfl) n2 m2 ?_
  refine ev_go 7 (pc1 := 69) (lv1 := [.ref 53, .int w, .int f, .long cy, xmk, .int i, .long (((J 54 ((f * 9) + i).toNatClampNeg) - (J 54 ((w * 9) + i).toNatClampNeg)) - cy), xmk]) (st1 := [.int (lg_cmp (((J 54 ((f * 9) + i).toNatClampNeg) - (J 54 ((w * 9) + i).toNatClampNeg)) - cy) 0)]) (h1 := (124, I, J, R)) rfl ?_
  refine ev_br (b1 := false) rfl rfl (xcd_nge (x := (lg_cmp (((J 54 ((f * 9) + i).toNatClampNeg) - (J 54 ((w * 9) + i).toNatClampNeg)) - cy) 0)) (y := 0) (by rw [show ((0 : Int32)).toInt = 0 from by decide]; first | exact b2 | omega)) ?_
  refine ev_go 4 (pc1 := 79) (lv1 := [.ref 53, .int w, .int f, .long 1, xmk, .int i, .long (((J 54 ((f * 9) + i).toNatClampNeg) - (J 54 ((w * 9) + i).toNatClampNeg)) - cy), xmk]) (st1 := [.ref 53]) (h1 := (124, I, J, R)) rfl ?_
  refine ev_gf (c := 53) (t := 54) (X := R 53 0) rfl rfl (fun _ => rfl) rfl (hG 53 0 54 rfl rfl) ?_
  refine ev_go 10 (pc1 := 97) (lv1 := [.ref 53, .int w, .int f, .long 1, xmk, .int i, .long (((J 54 ((f * 9) + i).toNatClampNeg) - (J 54 ((w * 9) + i).toNatClampNeg)) - cy), xmk]) (st1 := [.long ((((J 54 ((f * 9) + i).toNatClampNeg) - (J 54 ((w * 9) + i).toNatClampNeg)) - cy) + (1 * 10000000000000000)), .int ((f * 9) + i), .ref 54]) (h1 := (124, I, J, R)) rfl ?_
  refine ev_lst (n := 81) rfl rfl (fun _ => rfl) n3 m3 ?_
  refine ev_iinc (x := i) (y := dx1) (lv1 := [.ref 53, .int w, .int f, .long 1, xmk, .int dx1, .long (((J 54 ((f * 9) + i).toNatClampNeg) - (J 54 ((w * 9) + i).toNatClampNeg)) - cy), xmk]) rfl rfl (by rw [show Int32.ofInt (-1) = (-1) from by decide]; exact i1) rfl ?_
  refine ev_go 1 (pc1 := 31) (lv1 := [.ref 53, .int w, .int f, .long 1, xmk, .int dx1, .long (((J 54 ((f * 9) + i).toNatClampNeg) - (J 54 ((w * 9) + i).toNatClampNeg)) - cy), xmk]) (st1 := []) (h1 := (124, I, (uL J 54 ((f * 9) + i).toNatClampNeg ((((J 54 ((f * 9) + i).toNatClampNeg) - (J 54 ((w * 9) + i).toNatClampNeg)) - cy) + (1 * 10000000000000000))), R)) rfl ?_
  exact hk
set_option maxRecDepth 20000 in
theorem qu_b {L : Nat} {xs : Nat → Int32} {d : Nat} {I : Nat → Nat → Int32} {J : Nat → Nat → Int64} {R : Nat → Nat → Nat} {w f i dx1 : Int32} {w6 : Value} {cy : Int64} (hG : aGd R) (b1 : i.toInt ≥ 0) (n1 : 0 ≤ ((f * 9) + i).toInt) (m1 : ((f * 9) + i).toInt < 81) (n2 : 0 ≤ ((w * 9) + i).toInt) (m2 : ((w * 9) + i).toInt < 81) (b2 : (lg_cmp (((J 54 ((f * 9) + i).toNatClampNeg) - (J 54 ((w * 9) + i).toNatClampNeg)) - cy) 0).toInt ≥ 0) (n3 : 0 ≤ ((f * 9) + i).toInt) (m3 : ((f * 9) + i).toInt < 81) (i1 : i + (-1) = dx1) {v : Option Value} {h' : xH} (hk : xEv L xs d 76 31 [.ref 53, .int w, .int f, .long 0, xmk, .int dx1, .long (((J 54 ((f * 9) + i).toNatClampNeg) - (J 54 ((w * 9) + i).toNatClampNeg)) - cy), xmk] [] (124, I, (uL J 54 ((f * 9) + i).toNatClampNeg ((((J 54 ((f * 9) + i).toNatClampNeg) - (J 54 ((w * 9) + i).toNatClampNeg)) - cy) + (0 * 10000000000000000))), R) v h') : xEv L xs d 76 31 [.ref 53, .int w, .int f, .long cy, xmk, .int i, w6, xmk] [] (124, I, J, R) v h' := by
  refine ev_go 1 (pc1 := 33) (lv1 := [.ref 53, .int w, .int f, .long cy, xmk, .int i, w6, xmk]) (st1 := [.int i]) (h1 := (124, I, J, R)) rfl ?_
  refine ev_br (b1 := false) rfl rfl (xcd_nlt (x := i) (y := 0) (by rw [show ((0 : Int32)).toInt = 0 from by decide]; first | exact b1 | omega)) ?_
  refine ev_go 1 (pc1 := 37) (lv1 := [.ref 53, .int w, .int f, .long cy, xmk, .int i, w6, xmk]) (st1 := [.ref 53]) (h1 := (124, I, J, R)) rfl ?_
  refine ev_gf (c := 53) (t := 54) (X := R 53 0) rfl rfl (fun _ => rfl) rfl (hG 53 0 54 rfl rfl) ?_
  refine ev_go 5 (pc1 := 47) (lv1 := [.ref 53, .int w, .int f, .long cy, xmk, .int i, w6, xmk]) (st1 := [.int ((f * 9) + i), .ref 54]) (h1 := (124, I, J, R)) rfl ?_
  refine ev_lld (n := 81) rfl rfl (fun _ => rfl) n1 m1 ?_
  refine ev_go 1 (pc1 := 49) (lv1 := [.ref 53, .int w, .int f, .long cy, xmk, .int i, w6, xmk]) (st1 := [.ref 53, .long (J 54 ((f * 9) + i).toNatClampNeg)]) (h1 := (124, I, J, R)) rfl ?_
  refine ev_gf (c := 53) (t := 54) (X := R 53 0) rfl rfl (fun _ => rfl) rfl (hG 53 0 54 rfl rfl) ?_
  refine ev_go 5 (pc1 := 59) (lv1 := [.ref 53, .int w, .int f, .long cy, xmk, .int i, w6, xmk]) (st1 := [.int ((w * 9) + i), .ref 54, .long (J 54 ((f * 9) + i).toNatClampNeg)]) (h1 := (124, I, J, R)) rfl ?_
  refine ev_lld (n := 81) rfl rfl (fun _ => rfl) n2 m2 ?_
  refine ev_go 7 (pc1 := 69) (lv1 := [.ref 53, .int w, .int f, .long cy, xmk, .int i, .long (((J 54 ((f * 9) + i).toNatClampNeg) - (J 54 ((w * 9) + i).toNatClampNeg)) - cy), xmk]) (st1 := [.int (lg_cmp (((J 54 ((f * 9) + i).toNatClampNeg) - (J 54 ((w * 9) + i).toNatClampNeg)) - cy) 0)]) (h1 := (124, I, J, R)) rfl ?_
  refine ev_br (b1 := true) rfl rfl (xcd_ge (x := (lg_cmp (((J 54 ((f * 9) + i).toNatClampNeg) - (J 54 ((w * 9) + i).toNatClampNeg)) - cy) 0)) (y := 0) (by rw [show ((0 : Int32)).toInt = 0 from by decide]; first | exact b2 | omega)) ?_
  refine ev_go 3 (pc1 := 79) (lv1 := [.ref 53, .int w, .int f, .long 0, xmk, .int i, .long (((J 54 ((f * 9) + i).toNatClampNeg) - (J 54 ((w * 9) + i).toNatClampNeg)) - cy), xmk]) (st1 := [.ref 53]) (h1 := (124, I, J, R)) rfl ?_
  refine ev_gf (c := 53) (t := 54) (X := R 53 0) rfl rfl (fun _ => rfl) rfl (hG 53 0 54 rfl rfl) ?_
  refine ev_go 10 (pc1 := 97) (lv1 := [.ref 53, .int w, .int f, .long 0, xmk, .int i, .long (((J 54 ((f * 9) + i).toNatClampNeg) - (J 54 ((w * 9) + i).toNatClampNeg)) - cy), xmk]) (st1 := [.long ((((J 54 ((f * 9) + i).toNatClampNeg) - (J 54 ((w * 9) + i).toNatClampNeg)) - cy) + (0 * 10000000000000000)), .int ((f * 9) + i), .ref 54]) (h1 := (124, I, J, R)) rfl ?_
  refine ev_lst (n := 81) rfl rfl (fun _ => rfl) n3 m3 ?_
  refine ev_iinc (x := i) (y := dx1) (lv1 := [.ref 53, .int w, .int f, .long 0, xmk, .int dx1, .long (((J 54 ((f * 9) + i).toNatClampNeg) - (J 54 ((w * 9) + i).toNatClampNeg)) - cy), xmk]) rfl rfl (by rw [show Int32.ofInt (-1) = (-1) from by decide]; exact i1) rfl ?_
  refine ev_go 1 (pc1 := 31) (lv1 := [.ref 53, .int w, .int f, .long 0, xmk, .int dx1, .long (((J 54 ((f * 9) + i).toNatClampNeg) - (J 54 ((w * 9) + i).toNatClampNeg)) - cy), xmk]) (st1 := []) (h1 := (124, I, (uL J 54 ((f * 9) + i).toNatClampNeg ((((J 54 ((f * 9) + i).toNatClampNeg) - (J 54 ((w * 9) + i).toNatClampNeg)) - cy) + (0 * 10000000000000000))), R)) rfl ?_
  exact hk
theorem qu_l {L : Nat} {xs : Nat → Int32} {d : Nat} {I : Nat → Nat → Int32} {R : Nat → Nat → Nat} (hG : aGd R) {w f : Int32} {un wN fN : Nat} (h9 : un ≤ 9) (hw : w.toInt = wN) (hf : f.toInt = fN) (w9 : wN < 9) (f9 : fN < 9) (hne : wN ≠ fN) (D W : Nat → Int) : ∀ (g jN : Nat) (i : Int32) (cy : Int64) (w6 : Value) (J : Nat → Nat → Int64), jN + g = un → i.toInt = (un : Int) - 1 - jN → 0 ≤ cy.toInt → cy.toInt ≤ 1 → cD J fN → cD J wN → (∀ j, jN ≤ j → j < un → cF J un fN j = D j) → (∀ j, j < un → cF J un wN j = W j) → sT 16 (cF J un fN) jN - cy.toInt * tn (16 * jN) = sT 16 D jN - sT 16 W jN →
    ∃ (z : Int) (J' : Nat → Nat → Int64), xEv L xs d 76 31 [.ref 53, .int w, .int f, .long cy, xmk, .int i, w6, xmk] [] (124, I, J, R) none (124, I, J', R) ∧ (∀ c q, ¬ (c = 54 ∧ 9 * fN ≤ q ∧ q < 9 * fN + un) → J' c q = J c q) ∧ cD J' fN ∧ 0 ≤ z ∧ z ≤ 1 ∧ sT 16 (cF J' un fN) un - z * tn (16 * un) = sT 16 D un - sT 16 W un := by
  intro g
  induction g with
  | zero =>
    intro jN i cy w6 J hj ei c0 c1 hD hDw hR hW hS
    have e : jN = un := by omega
    subst e
    exact ⟨cy.toInt, J, qu_e hG (by omega), fun _ _ _ => rfl, hD, c0, c1, hS⟩
  | succ g ih =>
    intro jN i cy w6 J hj ei c0 c1 hD hDw hR hW hS
    have ei' : i.toInt = ((un - 1 - jN : Nat) : Int) := by omega
    obtain ⟨a1, a2, a3⟩ := ix9 hf ei' f9 (by omega)
    obtain ⟨b1, b2, b3⟩ := ix9 hw ei' w9 (by omega)
    obtain ⟨x0, x1⟩ := hD (un - 1 - jN) (by omega)
    obtain ⟨y0, y1⟩ := hDw (un - 1 - jN) (by omega)
    have hx : (J 54 (9 * fN + (un - 1 - jN))).toInt = D jN := hR jN (Nat.le_refl _) (by omega)
    have hy : (J 54 (9 * wN + (un - 1 - jN))).toInt = W jN := hW jN (by omega)
    have ev : (((J 54 ((f * 9) + i).toNatClampNeg) - (J 54 ((w * 9) + i).toNatClampNeg)) - cy).toInt = D jN - W jN - cy.toInt := by
      rw [a3, b3]
      have em : ((J 54 (9 * fN + (un - 1 - jN))) - (J 54 (9 * wN + (un - 1 - jN)))).toInt = D jN - W jN := by rw [l_sub (by omega) (by omega), hx, hy]
      rw [l_sub (by omega) (by omega), em]
    obtain ⟨vv, hvv⟩ : ∃ vv, (((J 54 ((f * 9) + i).toNatClampNeg) - (J 54 ((w * 9) + i).toNatClampNeg)) - cy) = vv := ⟨_, rfl⟩
    rw [hvv] at ev
    obtain ⟨dx, hdx⟩ : ∃ dx, i + (-1) = dx := ⟨_, rfl⟩
    have edx : dx.toInt = (un : Int) - 1 - (jN + 1 : Nat) := by
      rw [← hdx, i_add (by rw [show (-1 : Int32).toInt = -1 from by decide]; omega) (by rw [show (-1 : Int32).toInt = -1 from by decide]; omega), show (-1 : Int32).toInt = -1 from by decide]
      omega
    have go : ∀ (n cy' : Int64), 0 ≤ n.toInt → n.toInt < 10000000000000000 → 0 ≤ cy'.toInt → cy'.toInt ≤ 1 → n.toInt - cy'.toInt * 10000000000000000 = D jN - W jN - cy.toInt → ∃ (z : Int) (J' : Nat → Nat → Int64), xEv L xs d 76 31 [.ref 53, .int w, .int f, .long cy', xmk, .int dx, .long vv, xmk] [] (124, I, uL J 54 (9 * fN + (un - 1 - jN)) n, R) none (124, I, J', R) ∧ (∀ c q, ¬ (c = 54 ∧ 9 * fN ≤ q ∧ q < 9 * fN + un) → J' c q = J c q) ∧ cD J' fN ∧ 0 ≤ z ∧ z ≤ 1 ∧ sT 16 (cF J' un fN) un - z * tn (16 * un) = sT 16 D un - sT 16 W un := by
      intro n cy' n0 n1 p0 p1 hn
      obtain ⟨z, J', u1, u2, u3, u4, u5, u6⟩ := ih (jN + 1) dx cy' (.long vv) (uL J 54 (9 * fN + (un - 1 - jN)) n) (by omega) edx p0 p1 (cD_u hD n0 n1) (cD_e (fun k hk => uL_n _ _ (by omega)) hDw) (fun j h1 h2 => by
          show ((uL J 54 (9 * fN + (un - 1 - jN)) n) 54 (9 * fN + (un - 1 - j))).toInt = _
          rw [uL_n _ _ (by omega)]
          exact hR j (by omega) h2) (fun j h2 => by
          show ((uL J 54 (9 * fN + (un - 1 - jN)) n) 54 (9 * wN + (un - 1 - j))).toInt = _
          rw [uL_n _ _ (by omega)]
          exact hW j h2) (by
          rw [sT_s, sT_s, sT_s, cF_u (by omega), cF_s, tn_s]
          exact su_st hS (by rw [tn_16]; exact hn))
      exact ⟨z, J', u1, fun c q hc => by rw [u2 c q hc, uL_n _ _ (by omega)], u3, u4, u5, u6⟩
    by_cases hc : vv.toInt < 0
    · obtain ⟨n, hn⟩ : ∃ n, (vv + (1 * 10000000000000000)) = n := ⟨_, rfl⟩
      have en : n.toInt = vv.toInt + 10000000000000000 := by rw [← hn, l_add (by rw [k64_m1]; omega) (by rw [k64_m1]; omega), k64_m1]
      have g := (lg_lt (x := vv) (y := 0)).mpr (by rw [k64_0]; omega)
      obtain ⟨z, J', u1, u2⟩ := go n 1 (by omega) (by omega) (by rw [k64_1]; decide) (by rw [k64_1]; decide) (by rw [k64_1]; omega)
      refine ⟨z, J', qu_a hG (by omega) a1 a2 b1 b2 (by rw [hvv]; omega) a1 a2 hdx ?_, u2⟩
      rw [hvv, a3, hn]
      exact u1
    · obtain ⟨n, hn⟩ : ∃ n, (vv + (0 * 10000000000000000)) = n := ⟨_, rfl⟩
      have en : n.toInt = vv.toInt := by rw [← hn, l_add (by rw [k64_m0]; omega) (by rw [k64_m0]; omega), k64_m0]; omega
      have g := (by have := mt (lg_lt (x := vv) (y := 0)).mp (by rw [k64_0]; omega); omega)
      obtain ⟨z, J', u1, u2⟩ := go n 0 (by omega) (by omega) (by rw [k64_0]; decide) (by rw [k64_0]; decide) (by rw [k64_0]; omega)
      refine ⟨z, J', qu_b hG (by omega) a1 a2 b1 b2 (by rw [hvv]; omega) a1 a2 hdx ?_, u2⟩
      rw [hvv, a3, hn]
      exact u1
theorem qu_run {L : Nat} {xs : Nat → Int32} {d : Nat} {I : Nat → Nat → Int32} {J : Nat → Nat → Int64} {R : Nat → Nat → Nat} (hG : aGd R) {w f : Int32} {un wN fN : Nat} (hu : (I 53 1).toInt = un) (h1 : 1 ≤ un) (h9 : un ≤ 9) (hw : w.toInt = wN) (hf : f.toInt = fN) (w9 : wN < 9) (f9 : fN < 9) (hne : wN ≠ fN) (dw : cD J wN) (df : cD J fN) (hle : cV J un wN ≤ cV J un fN) : ∃ J', xEv L xs d 76 0 [.ref 53, .int w, .int f, xmk, xmk, xmk, xmk, xmk] [] (124, I, J, R) none (124, I, J', R) ∧ (∀ c q, ¬ (c = 54 ∧ 9 * fN ≤ q ∧ q < 9 * fN + un) → J' c q = J c q) ∧ cD J' fN ∧ cV J' un fN = cV J un fN - cV J un wN := by
  have es : (I 53 1 - 1).toInt = (un : Int) - 1 - (0 : Nat) := by rw [i_sub (by rw [show (1 : Int32).toInt = 1 from by decide]; omega) (by rw [show (1 : Int32).toInt = 1 from by decide]; omega), show (1 : Int32).toInt = 1 from by decide]; omega
  obtain ⟨z, J', x1, x2, x3, x4, x5, x6⟩ := qu_l (L := L) (xs := xs) (d := d) (I := I) hG h9 hw hf w9 f9 hne (cF J un fN) (cF J un wN) un 0 (I 53 1 - 1) 0 xmk J (by omega) es (by decide) (by decide) df dw (fun _ _ _ => rfl) (fun _ _ => rfl) (by
    simp only [sT_0]
    rw [show (0 : Int64).toInt = 0 from by decide, Int.zero_mul])
  refine ⟨J', qu_s hG (by omega) (by omega) (by omega) (by omega) x1, x2, x3, ?_⟩
  have b := cV_b x3 h9
  have hp := tn_pos (16 * un)
  unfold cV at b hle ⊢
  by_cases hz : z = 0
  · rw [hz, Int.zero_mul] at x6
    omega
  · have z1 : z = 1 := by omega
    rw [z1, Int.one_mul] at x6
    omega
set_option maxRecDepth 20000 in
theorem qd_s {L : Nat} {xs : Nat → Int32} {d : Nat} {I : Nat → Nat → Int32} {J : Nat → Nat → Int64} {R : Nat → Nat → Nat} {w f : Int32} (hG : aGd R) (b1 : w.toInt ≥ 0) (b2 : w.toInt < 9) (b3 : f.toInt ≥ 0) (b4 : f.toInt < 9) {v : Option Value} {h' : xH} (hk : xEv L xs d 78 31 [.ref 53, .int w, .int f, .long 0, xmk, .int ((I 53 1) - 1), xmk, xmk] [] (124, I, J, R) v h') : xEv L xs d 78 0 [.ref 53, .int w, .int f, xmk, xmk, xmk, xmk, xmk] [] (124, I, J, R) v h' := by
  refine ev_go 1 (pc1 := 1) (lv1 := [.ref 53, .int w, .int f, xmk, xmk, xmk, xmk, xmk]) (st1 := [.int w]) (h1 := (124, I, J, R)) rfl ?_
  refine ev_br (b1 := false) rfl rfl (xcd_nlt (x := w) (y := 0) (by rw [show ((0 : Int32)).toInt = 0 from by decide]; first | exact b1 | omega)) ?_
  refine ev_go 2 (pc1 := 7) (lv1 := [.ref 53, .int w, .int f, xmk, xmk, xmk, xmk, xmk]) (st1 := [.int 9, .int w]) (h1 := (124, I, J, R)) rfl ?_
  refine ev_br (b1 := false) rfl rfl (xcd_nge (x := w) (y := 9) (by rw [show ((9 : Int32)).toInt = 9 from by decide]; first | exact b2 | omega)) ?_
  refine ev_go 1 (pc1 := 11) (lv1 := [.ref 53, .int w, .int f, xmk, xmk, xmk, xmk, xmk]) (st1 := [.int f]) (h1 := (124, I, J, R)) rfl ?_
  refine ev_br (b1 := false) rfl rfl (xcd_nlt (x := f) (y := 0) (by rw [show ((0 : Int32)).toInt = 0 from by decide]; first | exact b3 | omega)) ?_
  refine ev_go 2 (pc1 := 17) (lv1 := [.ref 53, .int w, .int f, xmk, xmk, xmk, xmk, xmk]) (st1 := [.int 9, .int f]) (h1 := (124, I, J, R)) rfl ?_
  refine ev_br (b1 := true) rfl rfl (xcd_lt (x := f) (y := 9) (by rw [show ((9 : Int32)).toInt = 9 from by decide]; first | exact b4 | omega)) ?_
  refine ev_go 7 (pc1 := 31) (lv1 := [.ref 53, .int w, .int f, .long 0, xmk, .int ((I 53 1) - 1), xmk, xmk]) (st1 := []) (h1 := (124, I, J, R)) rfl ?_
  exact hk
set_option maxRecDepth 20000 in
theorem qd_e {L : Nat} {xs : Nat → Int32} {d : Nat} {I : Nat → Nat → Int32} {J : Nat → Nat → Int64} {R : Nat → Nat → Nat} {w f i : Int32} {w6 : Value} {cy : Int64} (hG : aGd R) (b1 : i.toInt < 0) : xEv L xs d 78 31 [.ref 53, .int w, .int f, .long cy, xmk, .int i, w6, xmk] [] (124, I, J, R) none (124, I, J, R) := by
  refine ev_go 1 (pc1 := 33) (lv1 := [.ref 53, .int w, .int f, .long cy, xmk, .int i, w6, xmk]) (st1 := [.int i]) (h1 := (124, I, J, R)) rfl ?_
  refine ev_br (b1 := true) rfl rfl (xcd_lt (x := i) (y := 0) (by rw [show ((0 : Int32)).toInt = 0 from by decide]; first | exact b1 | omega)) ?_
  exact ev_ret rfl rfl
set_option maxRecDepth 20000 in
theorem qd_a {L : Nat} {xs : Nat → Int32} {d : Nat} {I : Nat → Nat → Int32} {J : Nat → Nat → Int64} {R : Nat → Nat → Nat} {w f i dx1 : Int32} {w6 : Value} {cy : Int64} (hG : aGd R) (b1 : i.toInt ≥ 0) (n1 : 0 ≤ ((f * 9) + i).toInt) (m1 : ((f * 9) + i).toInt < 81) (n2 : 0 ≤ ((w * 9) + i).toInt) (m2 : ((w * 9) + i).toInt < 81) (b2 : (lg_cmp (((J 54 ((f * 9) + i).toNatClampNeg) + (J 54 ((w * 9) + i).toNatClampNeg)) + cy) 10000000000000000).toInt ≥ 0) (n3 : 0 ≤ ((f * 9) + i).toInt) (m3 : ((f * 9) + i).toInt < 81) (i1 : i + (-1) = dx1) {v : Option Value} {h' : xH} (hk : xEv L xs d 78 31 [.ref 53, .int w, .int f, .long 1, xmk, .int dx1, .long (((J 54 ((f * 9) + i).toNatClampNeg) + (J 54 ((w * 9) + i).toNatClampNeg)) + cy), xmk] [] (124, I, (uL J 54 ((f * 9) + i).toNatClampNeg ((((J 54 ((f * 9) + i).toNatClampNeg) + (J 54 ((w * 9) + i).toNatClampNeg)) + cy) - (1 * 10000000000000000))), R) v h') : xEv L xs d 78 31 [.ref 53, .int w, .int f, .long cy, xmk, .int i, w6, xmk] [] (124, I, J, R) v h' := by
  refine ev_go 1 (pc1 := 33) (lv1 := [.ref 53, .int w, .int f, .long cy, xmk, .int i, w6, xmk]) (st1 := [.int i]) (h1 := (124, I, J, R)) rfl ?_
  refine ev_br (b1 := false) rfl rfl (xcd_nlt (x := i) (y := 0) (by rw [show ((0 : Int32)).toInt = 0 from by decide]; first | exact b1 | omega)) ?_
  refine ev_go 1 (pc1 := 37) (lv1 := [.ref 53, .int w, .int f, .long cy, xmk, .int i, w6, xmk]) (st1 := [.ref 53]) (h1 := (124, I, J, R)) rfl ?_
  refine ev_gf (c := 53) (t := 54) (X := R 53 0) rfl rfl (fun _ => rfl) rfl (hG 53 0 54 rfl rfl) ?_
  refine ev_go 5 (pc1 := 47) (lv1 := [.ref 53, .int w, .int f, .long cy, xmk, .int i, w6, xmk]) (st1 := [.int ((f * 9) + i), .ref 54]) (h1 := (124, I, J, R)) rfl ?_
  refine ev_lld (n := 81) rfl rfl (fun _ => rfl) n1 m1 ?_
  refine ev_go 1 (pc1 := 49) (lv1 := [.ref 53, .int w, .int f, .long cy, xmk, .int i, w6, xmk]) (st1 := [.ref 53, .long (J 54 ((f * 9) + i).toNatClampNeg)]) (h1 := (124, I, J, R)) rfl ?_
  refine ev_gf (c := 53) (t := 54) (X := R 53 0) rfl rfl (fun _ => rfl) rfl (hG 53 0 54 rfl rfl) ?_
  refine ev_go 5 (pc1 := 59) (lv1 := [.ref 53, .int w, .int f, .long cy, xmk, .int i, w6, xmk]) (st1 := [.int ((w * 9) + i), .ref 54, .long (J 54 ((f * 9) + i).toNatClampNeg)]) (h1 := (124, I, J, R)) rfl ?_
  refine ev_lld (n := 81) rfl rfl (fun _ => rfl) n2 m2 ?_
  refine ev_go 7 (pc1 := 71) (lv1 := [.ref 53, .int w, .int f, .long cy, xmk, .int i, .long (((J 54 ((f * 9) + i).toNatClampNeg) + (J 54 ((w * 9) + i).toNatClampNeg)) + cy), xmk]) (st1 := [.int (lg_cmp (((J 54 ((f * 9) + i).toNatClampNeg) + (J 54 ((w * 9) + i).toNatClampNeg)) + cy) 10000000000000000)]) (h1 := (124, I, J, R)) rfl ?_
  refine ev_br (b1 := false) rfl rfl (xcd_nlt (x := (lg_cmp (((J 54 ((f * 9) + i).toNatClampNeg) + (J 54 ((w * 9) + i).toNatClampNeg)) + cy) 10000000000000000)) (y := 0) (by rw [show ((0 : Int32)).toInt = 0 from by decide]; first | exact b2 | omega)) ?_
  refine ev_go 4 (pc1 := 81) (lv1 := [.ref 53, .int w, .int f, .long 1, xmk, .int i, .long (((J 54 ((f * 9) + i).toNatClampNeg) + (J 54 ((w * 9) + i).toNatClampNeg)) + cy), xmk]) (st1 := [.ref 53]) (h1 := (124, I, J, R)) rfl ?_
  refine ev_gf (c := 53) (t := 54) (X := R 53 0) rfl rfl (fun _ => rfl) rfl (hG 53 0 54 rfl rfl) ?_
  refine ev_go 10 (pc1 := 99) (lv1 := [.ref 53, .int w, .int f, .long 1, xmk, .int i, .long (((J 54 ((f * 9) + i).toNatClampNeg) + (J 54 ((w * 9) + i).toNatClampNeg)) + cy), xmk]) (st1 := [.long ((((J 54 ((f * 9) + i).toNatClampNeg) + (J 54 ((w * 9) + i).toNatClampNeg)) + cy) - (1 * 10000000000000000)), .int ((f * 9) + i), .ref 54]) (h1 := (124, I, J, R)) rfl ?_
  refine ev_lst (n := 81) rfl rfl (fun _ => rfl) n3 m3 ?_
  refine ev_iinc (x := i) (y := dx1) (lv1 := [.ref 53, .int w, .int f, .long 1, xmk, .int dx1, .long (((J 54 ((f * 9) + i).toNatClampNeg) + (J 54 ((w * 9) + i).toNatClampNeg)) + cy), xmk]) rfl rfl (by rw [show Int32.ofInt (-1) = (-1) from by decide]; exact i1) rfl ?_
  refine ev_go 1 (pc1 := 31) (lv1 := [.ref 53, .int w, .int f, .long 1, xmk, .int dx1, .long (((J 54 ((f * 9) + i).toNatClampNeg) + (J 54 ((w * 9) + i).toNatClampNeg)) + cy), xmk]) (st1 := []) (h1 := (124, I, (uL J 54 ((f * 9) + i).toNatClampNeg ((((J 54 ((f * 9) + i).toNatClampNeg) + (J 54 ((w * 9) + i).toNatClampNeg)) + cy) - (1 * 10000000000000000))), R)) rfl ?_
  exact hk
set_option maxRecDepth 20000 in
theorem qd_b {L : Nat} {xs : Nat → Int32} {d : Nat} {I : Nat → Nat → Int32} {J : Nat → Nat → Int64} {R : Nat → Nat → Nat} {w f i dx1 : Int32} {w6 : Value} {cy : Int64} (hG : aGd R) (b1 : i.toInt ≥ 0) (n1 : 0 ≤ ((f * 9) + i).toInt) (m1 : ((f * 9) + i).toInt < 81) (n2 : 0 ≤ ((w * 9) + i).toInt) (m2 : ((w * 9) + i).toInt < 81) (b2 : (lg_cmp (((J 54 ((f * 9) + i).toNatClampNeg) + (J 54 ((w * 9) + i).toNatClampNeg)) + cy) 10000000000000000).toInt < 0) (n3 : 0 ≤ ((f * 9) + i).toInt) (m3 : ((f * 9) + i).toInt < 81) (i1 : i + (-1) = dx1) {v : Option Value} {h' : xH} (hk : xEv L xs d 78 31 [.ref 53, .int w, .int f, .long 0, xmk, .int dx1, .long (((J 54 ((f * 9) + i).toNatClampNeg) + (J 54 ((w * 9) + i).toNatClampNeg)) + cy), xmk] [] (124, I, (uL J 54 ((f * 9) + i).toNatClampNeg ((((J 54 ((f * 9) + i).toNatClampNeg) + (J 54 ((w * 9) + i).toNatClampNeg)) + cy) - (0 * 10000000000000000))), R) v h') : xEv L xs d 78 31 [.ref 53, .int w, .int f, .long cy, xmk, .int i, w6, xmk] [] (124, I, J, R) v h' := by
  refine ev_go 1 (pc1 := 33) (lv1 := [.ref 53, .int w, .int f, .long cy, xmk, .int i, w6, xmk]) (st1 := [.int i]) (h1 := (124, I, J, R)) rfl ?_
  refine ev_br (b1 := false) rfl rfl (xcd_nlt (x := i) (y := 0) (by rw [show ((0 : Int32)).toInt = 0 from by decide]; first | exact b1 | omega)) ?_
  refine ev_go 1 (pc1 := 37) (lv1 := [.ref 53, .int w, .int f, .long cy, xmk, .int i, w6, xmk]) (st1 := [.ref 53]) (h1 := (124, I, J, R)) rfl ?_
  refine ev_gf (c := 53) (t := 54) (X := R 53 0) rfl rfl (fun _ => rfl) rfl (hG 53 0 54 rfl rfl) ?_
  refine ev_go 5 (pc1 := 47) (lv1 := [.ref 53, .int w, .int f, .long cy, xmk, .int i, w6, xmk]) (st1 := [.int ((f * 9) + i), .ref 54]) (h1 := (124, I, J, R)) rfl ?_
  refine ev_lld (n := 81) rfl rfl (fun _ => rfl) n1 m1 ?_
  refine ev_go 1 (pc1 := 49) (lv1 := [.ref 53, .int w, .int f, .long cy, xmk, .int i, w6, xmk]) (st1 := [.ref 53, .long (J 54 ((f * 9) + i).toNatClampNeg)]) (h1 := (124, I, J, R)) rfl ?_
  refine ev_gf (c := 53) (t := 54) (X := R 53 0) rfl rfl (fun _ => rfl) rfl (hG 53 0 54 rfl rfl) ?_
  refine ev_go 5 (pc1 := 59) (lv1 := [.ref 53, .int w, .int f, .long cy, xmk, .int i, w6, xmk]) (st1 := [.int ((w * 9) + i), .ref 54, .long (J 54 ((f * 9) + i).toNatClampNeg)]) (h1 := (124, I, J, R)) rfl ?_
  refine ev_lld (n := 81) rfl rfl (fun _ => rfl) n2 m2 ?_
  refine ev_go 7 (pc1 := 71) (lv1 := [.ref 53, .int w, .int f, .long cy, xmk, .int i, .long (((J 54 ((f * 9) + i).toNatClampNeg) + (J 54 ((w * 9) + i).toNatClampNeg)) + cy), xmk]) (st1 := [.int (lg_cmp (((J 54 ((f * 9) + i).toNatClampNeg) + (J 54 ((w * 9) + i).toNatClampNeg)) + cy) 10000000000000000)]) (h1 := (124, I, J, R)) rfl ?_
  refine ev_br (b1 := true) rfl rfl (xcd_lt (x := (lg_cmp (((J 54 ((f * 9) + i).toNatClampNeg) + (J 54 ((w * 9) + i).toNatClampNeg)) + cy) 10000000000000000)) (y := 0) (by rw [show ((0 : Int32)).toInt = 0 from by decide]; first | exact b2 | omega)) ?_
  refine ev_go 3 (pc1 := 81) (lv1 := [.ref 53, .int w, .int f, .long 0, xmk, .int i, .long (((J 54 ((f * 9) + i).toNatClampNeg) + (J 54 ((w * 9) + i).toNatClampNeg)) + cy), xmk]) (st1 := [.ref 53]) (h1 := (124, I, J, R)) rfl ?_
  refine ev_gf (c := 53) (t := 54) (X := R 53 0) rfl rfl (fun _ => rfl) rfl (hG 53 0 54 rfl rfl) ?_
  refine ev_go 10 (pc1 := 99) (lv1 := [.ref 53, .int w, .int f, .long 0, xmk, .int i, .long (((J 54 ((f * 9) + i).toNatClampNeg) + (J 54 ((w * 9) + i).toNatClampNeg)) + cy), xmk]) (st1 := [.long ((((J 54 ((f * 9) + i).toNatClampNeg) + (J 54 ((w * 9) + i).toNatClampNeg)) + cy) - (0 * 10000000000000000)), .int ((f * 9) + i), .ref 54]) (h1 := (124, I, J, R)) rfl ?_
  refine ev_lst (n := 81) rfl rfl (fun _ => rfl) n3 m3 ?_
  refine ev_iinc (x := i) (y := dx1) (lv1 := [.ref 53, .int w, .int f, .long 0, xmk, .int dx1, .long (((J 54 ((f * 9) + i).toNatClampNeg) + (J 54 ((w * 9) + i).toNatClampNeg)) + cy), xmk]) rfl rfl (by rw [show Int32.ofInt (-1) = (-1) from by decide]; exact i1) rfl ?_
  refine ev_go 1 (pc1 := 31) (lv1 := [.ref 53, .int w, .int f, .long 0, xmk, .int dx1, .long (((J 54 ((f * 9) + i).toNatClampNeg) + (J 54 ((w * 9) + i).toNatClampNeg)) + cy), xmk]) (st1 := []) (h1 := (124, I, (uL J 54 ((f * 9) + i).toNatClampNeg ((((J 54 ((f * 9) + i).toNatClampNeg) + (J 54 ((w * 9) + i).toNatClampNeg)) + cy) - (0 * 10000000000000000))), R)) rfl ?_
  exact hk
theorem qd_l {L : Nat} {xs : Nat → Int32} {d : Nat} {I : Nat → Nat → Int32} {R : Nat → Nat → Nat} (hG : aGd R) {w f : Int32} {un wN fN : Nat} (h9 : un ≤ 9) (hw : w.toInt = wN) (hf : f.toInt = fN) (w9 : wN < 9) (f9 : fN < 9) (hne : wN ≠ fN) (D W : Nat → Int) : ∀ (g jN : Nat) (i : Int32) (cy : Int64) (w6 : Value) (J : Nat → Nat → Int64), jN + g = un → i.toInt = (un : Int) - 1 - jN → 0 ≤ cy.toInt → cy.toInt ≤ 1 → cD J fN → cD J wN → (∀ j, jN ≤ j → j < un → cF J un fN j = D j) → (∀ j, j < un → cF J un wN j = W j) → sT 16 (cF J un fN) jN + cy.toInt * tn (16 * jN) = sT 16 D jN + sT 16 W jN →
    ∃ (z : Int) (J' : Nat → Nat → Int64), xEv L xs d 78 31 [.ref 53, .int w, .int f, .long cy, xmk, .int i, w6, xmk] [] (124, I, J, R) none (124, I, J', R) ∧ (∀ c q, ¬ (c = 54 ∧ 9 * fN ≤ q ∧ q < 9 * fN + un) → J' c q = J c q) ∧ cD J' fN ∧ 0 ≤ z ∧ z ≤ 1 ∧ sT 16 (cF J' un fN) un + z * tn (16 * un) = sT 16 D un + sT 16 W un := by
  intro g
  induction g with
  | zero =>
    intro jN i cy w6 J hj ei c0 c1 hD hDw hR hW hS
    have e : jN = un := by omega
    subst e
    exact ⟨cy.toInt, J, qd_e hG (by omega), fun _ _ _ => rfl, hD, c0, c1, hS⟩
  | succ g ih =>
    intro jN i cy w6 J hj ei c0 c1 hD hDw hR hW hS
    have ei' : i.toInt = ((un - 1 - jN : Nat) : Int) := by omega
    obtain ⟨a1, a2, a3⟩ := ix9 hf ei' f9 (by omega)
    obtain ⟨b1, b2, b3⟩ := ix9 hw ei' w9 (by omega)
    obtain ⟨x0, x1⟩ := hD (un - 1 - jN) (by omega)
    obtain ⟨y0, y1⟩ := hDw (un - 1 - jN) (by omega)
    have hx : (J 54 (9 * fN + (un - 1 - jN))).toInt = D jN := hR jN (Nat.le_refl _) (by omega)
    have hy : (J 54 (9 * wN + (un - 1 - jN))).toInt = W jN := hW jN (by omega)
    have ev : (((J 54 ((f * 9) + i).toNatClampNeg) + (J 54 ((w * 9) + i).toNatClampNeg)) + cy).toInt = D jN + W jN + cy.toInt := by
      rw [a3, b3]
      have em : ((J 54 (9 * fN + (un - 1 - jN))) + (J 54 (9 * wN + (un - 1 - jN)))).toInt = D jN + W jN := by rw [l_add (by omega) (by omega), hx, hy]
      rw [l_add (by omega) (by omega), em]
    obtain ⟨vv, hvv⟩ : ∃ vv, (((J 54 ((f * 9) + i).toNatClampNeg) + (J 54 ((w * 9) + i).toNatClampNeg)) + cy) = vv := ⟨_, rfl⟩
    rw [hvv] at ev
    obtain ⟨dx, hdx⟩ : ∃ dx, i + (-1) = dx := ⟨_, rfl⟩
    have edx : dx.toInt = (un : Int) - 1 - (jN + 1 : Nat) := by
      rw [← hdx, i_add (by rw [show (-1 : Int32).toInt = -1 from by decide]; omega) (by rw [show (-1 : Int32).toInt = -1 from by decide]; omega), show (-1 : Int32).toInt = -1 from by decide]
      omega
    have go : ∀ (n cy' : Int64), 0 ≤ n.toInt → n.toInt < 10000000000000000 → 0 ≤ cy'.toInt → cy'.toInt ≤ 1 → n.toInt + cy'.toInt * 10000000000000000 = D jN + W jN + cy.toInt → ∃ (z : Int) (J' : Nat → Nat → Int64), xEv L xs d 78 31 [.ref 53, .int w, .int f, .long cy', xmk, .int dx, .long vv, xmk] [] (124, I, uL J 54 (9 * fN + (un - 1 - jN)) n, R) none (124, I, J', R) ∧ (∀ c q, ¬ (c = 54 ∧ 9 * fN ≤ q ∧ q < 9 * fN + un) → J' c q = J c q) ∧ cD J' fN ∧ 0 ≤ z ∧ z ≤ 1 ∧ sT 16 (cF J' un fN) un + z * tn (16 * un) = sT 16 D un + sT 16 W un := by
      intro n cy' n0 n1 p0 p1 hn
      obtain ⟨z, J', u1, u2, u3, u4, u5, u6⟩ := ih (jN + 1) dx cy' (.long vv) (uL J 54 (9 * fN + (un - 1 - jN)) n) (by omega) edx p0 p1 (cD_u hD n0 n1) (cD_e (fun k hk => uL_n _ _ (by omega)) hDw) (fun j h1 h2 => by
          show ((uL J 54 (9 * fN + (un - 1 - jN)) n) 54 (9 * fN + (un - 1 - j))).toInt = _
          rw [uL_n _ _ (by omega)]
          exact hR j (by omega) h2) (fun j h2 => by
          show ((uL J 54 (9 * fN + (un - 1 - jN)) n) 54 (9 * wN + (un - 1 - j))).toInt = _
          rw [uL_n _ _ (by omega)]
          exact hW j h2) (by
          rw [sT_s, sT_s, sT_s, cF_u (by omega), cF_s, tn_s]
          exact ad_st hS (by rw [tn_16]; exact hn))
      exact ⟨z, J', u1, fun c q hc => by rw [u2 c q hc, uL_n _ _ (by omega)], u3, u4, u5, u6⟩
    by_cases hc : 10000000000000000 ≤ vv.toInt
    · obtain ⟨n, hn⟩ : ∃ n, (vv - (1 * 10000000000000000)) = n := ⟨_, rfl⟩
      have en : n.toInt = vv.toInt - 10000000000000000 := by rw [← hn, l_sub (by rw [k64_m1]; omega) (by rw [k64_m1]; omega), k64_m1]
      have g := (by have := mt (lg_lt (x := vv) (y := 10000000000000000)).mp (by rw [k64_16]; omega); omega)
      obtain ⟨z, J', u1, u2⟩ := go n 1 (by omega) (by omega) (by rw [k64_1]; decide) (by rw [k64_1]; decide) (by rw [k64_1]; omega)
      refine ⟨z, J', qd_a hG (by omega) a1 a2 b1 b2 (by rw [hvv]; omega) a1 a2 hdx ?_, u2⟩
      rw [hvv, a3, hn]
      exact u1
    · obtain ⟨n, hn⟩ : ∃ n, (vv - (0 * 10000000000000000)) = n := ⟨_, rfl⟩
      have en : n.toInt = vv.toInt := by rw [← hn, l_sub (by rw [k64_m0]; omega) (by rw [k64_m0]; omega), k64_m0]; omega
      have g := (lg_lt (x := vv) (y := 10000000000000000)).mpr (by rw [k64_16]; omega)
      obtain ⟨z, J', u1, u2⟩ := go n 0 (by omega) (by omega) (by rw [k64_0]; decide) (by rw [k64_0]; decide) (by rw [k64_0]; omega)
      refine ⟨z, J', qd_b hG (by omega) a1 a2 b1 b2 (by rw [hvv]; omega) a1 a2 hdx ?_, u2⟩
      rw [hvv, a3, hn]
      exact u1
theorem qd_run {L : Nat} {xs : Nat → Int32} {d : Nat} {I : Nat → Nat → Int32} {J : Nat → Nat → Int64} {R : Nat → Nat → Nat} (hG : aGd R) {w f : Int32} {un wN fN : Nat} (hu : (I 53 1).toInt = un) (h1 : 1 ≤ un) (h9 : un ≤ 9) (hw : w.toInt = wN) (hf : f.toInt = fN) (w9 : wN < 9) (f9 : fN < 9) (hne : wN ≠ fN) (dw : cD J wN) (df : cD J fN) (hle : cV J un fN + cV J un wN < tn (16 * un)) : ∃ J', xEv L xs d 78 0 [.ref 53, .int w, .int f, xmk, xmk, xmk, xmk, xmk] [] (124, I, J, R) none (124, I, J', R) ∧ (∀ c q, ¬ (c = 54 ∧ 9 * fN ≤ q ∧ q < 9 * fN + un) → J' c q = J c q) ∧ cD J' fN ∧ cV J' un fN = cV J un fN + cV J un wN := by
  have es : (I 53 1 - 1).toInt = (un : Int) - 1 - (0 : Nat) := by rw [i_sub (by rw [show (1 : Int32).toInt = 1 from by decide]; omega) (by rw [show (1 : Int32).toInt = 1 from by decide]; omega), show (1 : Int32).toInt = 1 from by decide]; omega
  obtain ⟨z, J', x1, x2, x3, x4, x5, x6⟩ := qd_l (L := L) (xs := xs) (d := d) (I := I) hG h9 hw hf w9 f9 hne (cF J un fN) (cF J un wN) un 0 (I 53 1 - 1) 0 xmk J (by omega) es (by decide) (by decide) df dw (fun _ _ _ => rfl) (fun _ _ => rfl) (by
    simp only [sT_0]
    rw [show (0 : Int64).toInt = 0 from by decide, Int.zero_mul])
  refine ⟨J', qd_s hG (by omega) (by omega) (by omega) (by omega) x1, x2, x3, ?_⟩
  have b := cV_b x3 h9
  have hp := tn_pos (16 * un)
  unfold cV at b hle ⊢
  by_cases hz : z = 0
  · rw [hz, Int.zero_mul] at x6
    omega
  · have z1 : z = 1 := by omega
    rw [z1, Int.one_mul] at x6
    omega
