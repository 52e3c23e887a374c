/-! small sets as words -/
def y4 (b : Nat → Bool) : Nat := (if b 0 = true then 1 else 0) + (if b 1 = true then 2 else 0) + (if b 2 = true then 4 else 0) + (if b 3 = true then 8 else 0)
theorem y4_T : ∀ b0 b1 b2 b3 : Bool, ((if b0 = true then 1 else 0) + (if b1 = true then 2 else 0) + (if b2 = true then 4 else 0) + (if b3 = true then 8 else 0) : Nat) < 16 ∧ Nat.testBit ((if b0 = true then 1 else 0) + (if b1 = true then 2 else 0) + (if b2 = true then 4 else 0) + (if b3 = true then 8 else 0)) 0 = b0 ∧ Nat.testBit ((if b0 = true then 1 else 0) + (if b1 = true then 2 else 0) + (if b2 = true then 4 else 0) + (if b3 = true then 8 else 0)) 1 = b1 ∧ Nat.testBit ((if b0 = true then 1 else 0) + (if b1 = true then 2 else 0) + (if b2 = true then 4 else 0) + (if b3 = true then 8 else 0)) 2 = b2 ∧ Nat.testBit ((if b0 = true then 1 else 0) + (if b1 = true then 2 else 0) + (if b2 = true then 4 else 0) + (if b3 = true then 8 else 0)) 3 = b3 := by decide +kernel
theorem y4_lt (b : Nat → Bool) : y4 b < 16 := (y4_T (b 0) (b 1) (b 2) (b 3)).1
theorem y4_t (b : Nat → Bool) : ∀ n, n < 4 → (y4 b).testBit n = b n := by
  obtain ⟨-, h0, h1, h2, h3⟩ := y4_T (b 0) (b 1) (b 2) (b 3)
  intro n hn
  match n, hn with
  | 0, _ => exact h0
  | 1, _ => exact h1
  | 2, _ => exact h2
  | 3, _ => exact h3
  | n + 4, h => omega
theorem yt_T : ∀ k, k < 16 → ∀ i, i < 32 → tb (Int32.ofNat k) i = (decide (i < 4) && k.testBit i) := by decide +kernel
theorem yt_o {k i : Nat} (hk : k < 16) (hi : i < 32) : tb (Int32.ofNat k) i = (decide (i < 4) && k.testBit i) := yt_T k hk i hi
theorem y_of {X : Int32} {b : Nat → Bool} (h : ∀ i, i < 32 → tb X i = (decide (i < 4) && b i)) : X = Int32.ofNat (y4 b) := by
  refine tb_ext fun i hi => ?_
  rw [h i hi, yt_o (y4_lt b) hi]
  by_cases g : i < 4
  · rw [y4_t b i g]
  · rw [decide_eq_false g, Bool.false_and, Bool.false_and]
theorem yk_T : ∀ a, a < 16 → ∀ b, b < 16 → Int32.ofNat a &&& Int32.ofNat b = Int32.ofNat (a &&& b) := by decide +kernel
theorem ys_T : ∀ a, a < 16 → 0 < a → ∀ k, k < 16 → (Int32.ofNat a - 1) &&& Int32.ofNat k = Int32.ofNat ((a - 1) &&& k) ∧ ((a - 1) &&& k) < a ∧ ((a - 1) &&& k) &&& k = (a - 1) &&& k := by decide +kernel
theorem yd_D : ∀ a, a < 16 → ∀ k, k < 16 → ∀ s, s < 16 → (a &&& k = a ∧ s &&& k = s ∧ s < a) → s ≤ (a - 1) &&& k := by decide +kernel
theorem yd_T (a : Nat) (h : a < 16) (_ : 0 < a) (k : Nat) (hk : k < 16) (h0 : a &&& k = a) (s : Nat) (hs : s < 16) (h1 : s &&& k = s) (h2 : s < a) : s ≤ (a - 1) &&& k := yd_D a h k hk s hs ⟨h0, h1, h2⟩
theorem ya_lt {a b : Nat} (h : a < 16) : a &&& b < 16 := Nat.lt_of_le_of_lt Nat.and_le_left h
theorem ye_T : ∀ a, a < 16 → ∀ b, b < 16 → (∀ n, n < 4 → a.testBit n = b.testBit n) → a = b := by decide +kernel
theorem y_i {k : Nat} (hk : k < 16) : (Int32.ofNat k).toInt = k := Int32.toInt_ofNat_of_lt (by omega)
/-- how many -/
def yi (k n : Nat) : Nat := if k.testBit n = true then 1 else 0
def yP (k : Nat) : Nat := yi k 0 + yi k 1 + yi k 2 + yi k 3
/-- the number with the digit 1 for each -/
def yO (k : Nat) : Nat := yi k 0 + 7 * yi k 1 + 49 * yi k 2 + 343 * yi k 3
theorem yi_b (k n : Nat) : yi k n ≤ 1 := by
  unfold yi
  split <;> omega
theorem ybc_run {L : Nat} {xs : Nat → Int32} {d : Nat} {I : Nat → Nat → Int32} {J : Nat → Nat → Int64} {R : Nat → Nat → Nat} (hG : aGd R) {k : Nat} (hk : k < 16) : ∃ c : Int32, xEv L xs d 90 0 [.int (Int32.ofNat k)] [] (124, I, J, R) (some (.int c)) (124, I, J, R) ∧ c.toInt = yP k := by
  match k, hk with
  | 0, _ => exact ⟨0, ybc0 hG, by decide⟩
  | 1, _ => exact ⟨1, ybc1 hG, by decide⟩
  | 2, _ => exact ⟨1, ybc2 hG, by decide⟩
  | 3, _ => exact ⟨2, ybc3 hG, by decide⟩
  | 4, _ => exact ⟨1, ybc4 hG, by decide⟩
  | 5, _ => exact ⟨2, ybc5 hG, by decide⟩
  | 6, _ => exact ⟨2, ybc6 hG, by decide⟩
  | 7, _ => exact ⟨3, ybc7 hG, by decide⟩
  | 8, _ => exact ⟨1, ybc8 hG, by decide⟩
  | 9, _ => exact ⟨2, ybc9 hG, by decide⟩
  | 10, _ => exact ⟨2, ybc10 hG, by decide⟩
  | 11, _ => exact ⟨3, ybc11 hG, by decide⟩
  | 12, _ => exact ⟨2, ybc12 hG, by decide⟩
  | 13, _ => exact ⟨3, ybc13 hG, by decide⟩
  | 14, _ => exact ⟨3, ybc14 hG, by decide⟩
  | 15, _ => exact ⟨4, ybc15 hG, by decide⟩
  | k + 16, h => omega
theorem yon_run {L : Nat} {xs : Nat → Int32} {d : Nat} {I : Nat → Nat → Int32} {J : Nat → Nat → Int64} {R : Nat → Nat → Nat} (hG : aGd R) {k : Nat} (hk : k < 16) : ∃ c : Int32, xEv L xs d 39 0 [.retAddr 1, .int (Int32.ofNat k)] [] (124, I, J, R) (some (.int c)) (124, I, J, R) ∧ c.toInt = yO k := by
  match k, hk with
  | 0, _ => exact ⟨0, yon0 hG, by decide⟩
  | 1, _ => exact ⟨1, yon1 hG, by decide⟩
  | 2, _ => exact ⟨7, yon2 hG, by decide⟩
  | 3, _ => exact ⟨8, yon3 hG, by decide⟩
  | 4, _ => exact ⟨49, yon4 hG, by decide⟩
  | 5, _ => exact ⟨50, yon5 hG, by decide⟩
  | 6, _ => exact ⟨56, yon6 hG, by decide⟩
  | 7, _ => exact ⟨57, yon7 hG, by decide⟩
  | 8, _ => exact ⟨343, yon8 hG, by decide⟩
  | 9, _ => exact ⟨344, yon9 hG, by decide⟩
  | 10, _ => exact ⟨350, yon10 hG, by decide⟩
  | 11, _ => exact ⟨351, yon11 hG, by decide⟩
  | 12, _ => exact ⟨392, yon12 hG, by decide⟩
  | 13, _ => exact ⟨393, yon13 hG, by decide⟩
  | 14, _ => exact ⟨399, yon14 hG, by decide⟩
  | 15, _ => exact ⟨400, yon15 hG, by decide⟩
  | k + 16, h => omega
/-- shifts of whole words -/
theorem tb_sar {x k : Int32} {n i : Nat} (hk : k.toInt = n) (hn : n < 31) (hi : n + i < 32) : tb (x >>> (k &&& 31)) i = tb x (n + i) := by
  unfold tb
  rw [k_small hk hn, Int32.toBitVec_shiftRight, BitVec.sshiftRight_eq', sh_table n hn, BitVec.getLsbD_sshiftRight, if_pos (by omega), decide_eq_false (by omega)]
  rfl
theorem tb_sal {x k : Int32} {n i : Nat} (hk : k.toInt = n) (hn : n < 31) (hi : i < 32) : tb (x <<< (k &&& 31)) i = (decide (n ≤ i) && tb x (i - n)) := by
  unfold tb
  rw [k_small hk hn, Int32.toBitVec_shiftLeft, BitVec.shiftLeft_eq', sh_table n hn, BitVec.getLsbD_shiftLeft, decide_eq_true (show i < 32 by omega), Bool.true_and]
  by_cases h : i < n
  · rw [decide_eq_true h, decide_eq_false (by omega)]
    rfl
  · rw [decide_eq_false h, decide_eq_true (by omega)]
    rfl
theorem tb_15 : ∀ i, i < 32 → tb 15 i = decide (i < 4) := by decide +kernel
/-- a head: four bits a person -/
def yHd (w : zW) (h : Int32) (x : Nat) : Prop := ∀ p n, p < 8 → n < 4 → tb h (4 * p + n) = (decide (n < zN w) && decide (zd x n = p))
/-- the set that p has -/
def yS (w : zW) (x p : Nat) : Nat := y4 (fun n => decide (n < zN w) && decide (zd x n = p))
theorem yS_lt (w : zW) (x p : Nat) : yS w x p < 16 := y4_lt _
theorem yS_t (w : zW) (x p : Nat) {n : Nat} (hn : n < 4) : (yS w x p).testBit n = (decide (n < zN w) && decide (zd x n = p)) := y4_t _ n hn
theorem yso_run {L : Nat} {xs : Nat → Int32} {d : Nat} {I : Nat → Nat → Int32} {J : Nat → Nat → Int64} {R : Nat → Nat → Nat} (hG : aGd R) {w : zW} {h p : Int32} {x pN : Nat} (hh : yHd w h x) (hp : p.toInt = pN) (p7 : pN < 7) : xEv L xs d 87 0 [.int h, .int p] [] (124, I, J, R) (some (.int (Int32.ofNat (yS w x pN)))) (124, I, J, R) := by
  have e4 : (4 : Int32).toInt = 4 := by decide
  have ek : (4 * p).toInt = ((4 * pN : Nat) : Int) := by
    rw [i_mul (by rw [e4]; omega) (by rw [e4]; omega), e4, hp]
    omega
  have e : (h >>> ((4 * p) &&& 31)) &&& 15 = Int32.ofNat (yS w x pN) := by
    refine y_of fun i hi => ?_
    rw [tb_and, tb_15 i hi]
    by_cases g : i < 4
    · rw [decide_eq_true g, Bool.and_true, Bool.true_and, tb_sar ek (by omega) (by omega), hh pN i (by omega) g]
    · rw [decide_eq_false g, Bool.and_false, Bool.false_and]
  rw [← e]
  exact yso hG
theorem yP_S (w : zW) (x p : Nat) : yP (yS w x p) = zh w x p := by
  have q : ∀ n, n < 4 → yi (yS w x p) n = zq w x p n := fun n hn => by
    unfold yi zq
    rw [yS_t w x p hn]
    by_cases h1 : n < zN w
    · by_cases h2 : zd x n = p
      · rw [if_pos (show n < zN w ∧ zd x n = p from ⟨h1, h2⟩), decide_eq_true h1, decide_eq_true h2]
        rfl
      · rw [if_neg (show ¬ (n < zN w ∧ zd x n = p) from fun h => h2 h.2), decide_eq_false h2, Bool.and_false]
        rfl
    · rw [if_neg (show ¬ (n < zN w ∧ zd x n = p) from fun h => h1 h.1), decide_eq_false h1]
      rfl
  unfold yP zh
  rw [q 0 (by omega), q 1 (by omega), q 2 (by omega), q 3 (by omega)]
theorem yP_c (w : zW) (s x p : Nat) : yP (s &&& yS w x p) = zc w s.testBit x p := by
  have q : ∀ n, n < 4 → yi (s &&& yS w x p) n = zy w s.testBit x p n := fun n hn => by
    unfold yi zy
    rw [Nat.testBit_and, yS_t w x p hn]
    by_cases h0 : s.testBit n = true
    · by_cases h1 : n < zN w
      · by_cases h2 : zd x n = p
        · rw [if_pos (show s.testBit n = true ∧ n < zN w ∧ zd x n = p from ⟨h0, h1, h2⟩), decide_eq_true h1, decide_eq_true h2, h0]
          rfl
        · rw [if_neg (show ¬ (s.testBit n = true ∧ n < zN w ∧ zd x n = p) from fun h => h2 h.2.2), decide_eq_false h2, Bool.and_false, Bool.and_false]
          rfl
      · rw [if_neg (show ¬ (s.testBit n = true ∧ n < zN w ∧ zd x n = p) from fun h => h1 h.2.1), decide_eq_false h1, Bool.false_and, Bool.and_false]
        rfl
    · rw [if_neg (show ¬ (s.testBit n = true ∧ n < zN w ∧ zd x n = p) from fun h => h0 h.1)]
      cases e : s.testBit n with
      | true => exact absurd e h0
      | false => rfl
  unfold yP zc
  rw [q 0 (by omega), q 1 (by omega), q 2 (by omega), q 3 (by omega)]
/-- what can be told -/
def yb (w : zW) (t x n : Nat) : Bool := decide (n < zN w) && ((decide (zd x n = zA w t) && !zR w n (zB w t)) || (decide (zd x n = zB w t) && !zR w n (zA w t)))
theorem yb_t (w : zW) (t x n : Nat) : yb w t x n = true ↔ n < zN w ∧ zt w t x n := by
  unfold yb zt
  constructor
  · intro h
    rw [Bool.and_eq_true] at h
    obtain ⟨h1, h2⟩ := h
    refine ⟨of_decide_eq_true h1, ?_⟩
    rw [Bool.or_eq_true, Bool.and_eq_true, Bool.and_eq_true] at h2
    rcases h2 with ⟨a, b⟩ | ⟨a, b⟩
    · refine Or.inl ⟨of_decide_eq_true a, ?_⟩
      cases e : zR w n (zB w t) with
      | false => rfl
      | true => rw [e] at b; exact absurd b (by decide)
    · refine Or.inr ⟨of_decide_eq_true a, ?_⟩
      cases e : zR w n (zA w t) with
      | false => rfl
      | true => rw [e] at b; exact absurd b (by decide)
  · rintro ⟨h1, h2⟩
    rcases h2 with ⟨a, b⟩ | ⟨a, b⟩
    · rw [decide_eq_true h1, decide_eq_true a, b]
      rfl
    · rw [decide_eq_true h1, decide_eq_true a, b, Bool.true_and, Bool.true_and]
      exact Bool.or_true _
theorem yT_of {w : zW} {t x : Nat} {f g u v : Int32} (hf : f = Int32.ofNat (yS w x (zA w t))) (hg : g = Int32.ofNat (yS w x (zB w t))) (hu : ∀ n, n < zN w → tb u n = !zR w n (zB w t)) (hv : ∀ n, n < zN w → tb v n = !zR w n (zA w t)) : (f &&& u) ||| (g &&& v) = Int32.ofNat (y4 (yb w t x)) := by
  refine y_of fun i hi => ?_
  rw [tb_or, tb_and, tb_and, hf, hg, yt_o (yS_lt _ _ _) hi, yt_o (yS_lt _ _ _) hi]
  by_cases g4 : i < 4
  · rw [decide_eq_true g4, Bool.true_and, Bool.true_and, Bool.true_and, yS_t _ _ _ g4, yS_t _ _ _ g4]
    unfold yb
    by_cases h1 : i < zN w
    · rw [decide_eq_true h1, Bool.true_and, Bool.true_and, Bool.true_and, hu i h1, hv i h1]
    · rw [decide_eq_false h1]
      rfl
  · rw [decide_eq_false g4]
    rfl
/-- the number of the state come to -/
theorem yx_of {w : zW} {t x s : Nat} (ka : zA w t < 7) (kb : zB w t < 7) (kab : zA w t ≠ zB w t) (hx : x < 2401) (hs : ∀ n, n < 4 → s.testBit n = true → n < zN w ∧ zt w t x n) : ((zf w t x s.testBit : Nat) : Int) = (x : Int) + ((yO (s &&& yS w x (zA w t)) : Nat) - (yO (s &&& yS w x (zB w t)) : Nat) : Int) * ((zB w t : Int) - (zA w t : Int)) := by
  obtain ⟨D, hD⟩ : ∃ D : Int, (zB w t : Int) - (zA w t : Int) = D := ⟨_, rfl⟩
  have q : ∀ n, n < 4 → ∃ be : Int, ((yi (s &&& yS w x (zA w t)) n : Nat) : Int) - ((yi (s &&& yS w x (zB w t)) n : Nat) : Int) = be ∧ ((zd (zf w t x s.testBit) n : Nat) : Int) = (zd x n : Int) + be * D := by
    intro n hn
    unfold yi
    rw [zf_d ka kb hn, Nat.testBit_and, Nat.testBit_and, yS_t _ _ _ hn, yS_t _ _ _ hn]
    cases e : s.testBit n with
    | false => exact ⟨0, rfl, by rw [if_neg (show ¬ (false = true) by decide), Int.zero_mul, Int.add_zero]⟩
    | true =>
      obtain ⟨h1, h2⟩ := hs n hn e
      rw [decide_eq_true h1, if_pos (rfl : true = true)]
      rcases h2 with ⟨a, -⟩ | ⟨a, -⟩
      · rw [a, zw_A, decide_eq_true (rfl : zA w t = zA w t), decide_eq_false kab]
        exact ⟨1, rfl, by omega⟩
      · rw [a, zw_B kab, decide_eq_true (rfl : zB w t = zB w t), decide_eq_false (show ¬ zB w t = zA w t from fun z => kab z.symm)]
        exact ⟨-1, rfl, by omega⟩
  obtain ⟨b0, p0, q0⟩ := q 0 (by omega)
  obtain ⟨b1, p1, q1⟩ := q 1 (by omega)
  obtain ⟨b2, p2, q2⟩ := q 2 (by omega)
  obtain ⟨b3, p3, q3⟩ := q 3 (by omega)
  have ex : (x : Int) = (zd x 0 : Int) + 7 * (zd x 1 : Int) + 49 * (zd x 2 : Int) + 343 * (zd x 3 : Int) := by
    have e := zm_d hx
    unfold zm at e
    omega
  have ey : ((zf w t x s.testBit : Nat) : Int) = (zd (zf w t x s.testBit) 0 : Int) + 7 * (zd (zf w t x s.testBit) 1 : Int) + 49 * (zd (zf w t x s.testBit) 2 : Int) + 343 * (zd (zf w t x s.testBit) 3 : Int) := by
    have e := zm_d (zf_lt (x := x) (S := s.testBit) ka kb)
    unfold zm at e
    omega
  have eo : ((yO (s &&& yS w x (zA w t)) : Nat) - (yO (s &&& yS w x (zB w t)) : Nat) : Int) = b0 + 7 * b1 + 49 * b2 + 343 * b3 := by
    unfold yO
    omega
  rw [eo, hD, ey, q0, q1, q2, q3, Int.add_mul, Int.add_mul, Int.add_mul, Int.mul_assoc, Int.mul_assoc, Int.mul_assoc]
  omega
theorem yO_b (k : Nat) : yO k ≤ 400 := by
  have b0 := yi_b k 0
  have b1 := yi_b k 1
  have b2 := yi_b k 2
  have b3 := yi_b k 3
  unfold yO
  omega
/-- the head of the state come to -/
theorem ysh {s A p n : Nat} {k : Int32} (hs : s < 16) (hk : k.toInt = ((4 * A : Nat) : Int)) (a7 : A < 7) (p8 : p < 8) (n4 : n < 4) : tb (Int32.ofNat s <<< (k &&& 31)) (4 * p + n) = (decide (p = A) && s.testBit n) := by
  rw [tb_sal hk (by omega) (by omega)]
  by_cases e : p = A
  · rw [e, decide_eq_true rfl, decide_eq_true (by omega), show 4 * A + n - 4 * A = n by omega, yt_o hs (by omega), decide_eq_true n4, Bool.true_and]
  · rw [decide_eq_false e, Bool.false_and]
    by_cases g : 4 * A ≤ 4 * p + n
    · rw [yt_o hs (by omega), decide_eq_false (show ¬ 4 * p + n - 4 * A < 4 by omega), Bool.false_and, Bool.and_false]
    · rw [decide_eq_false g, Bool.false_and]
theorem yHd_f {w : zW} {t x s : Nat} {h a b : Int32} (ka : zA w t < 7) (kb : zB w t < 7) (kab : zA w t ≠ zB w t) (hs16 : s < 16) (hs : ∀ n, n < 4 → s.testBit n = true → n < zN w ∧ zt w t x n) (hh : yHd w h x) (ha : a.toInt = ((4 * zA w t : Nat) : Int)) (hb : b.toInt = ((4 * zB w t : Nat) : Int)) : yHd w ((h ^^^ (Int32.ofNat s <<< (a &&& 31))) ^^^ (Int32.ofNat s <<< (b &&& 31))) (zf w t x s.testBit) := by
  intro p n hp hn
  rw [tb_xor, tb_xor, ysh hs16 ha ka hp hn, ysh hs16 hb kb hp hn, hh p n hp hn, zf_d ka kb hn]
  cases e : s.testBit n with
  | false => rw [if_neg (by decide), Bool.and_false, Bool.and_false, Bool.xor_false, Bool.xor_false]
  | true =>
    obtain ⟨h1, h2⟩ := hs n hn e
    rw [if_pos rfl, decide_eq_true h1, Bool.true_and, Bool.true_and, Bool.and_true, Bool.and_true]
    rcases h2 with ⟨c, -⟩ | ⟨c, -⟩
    · rw [c, zw_A]
      by_cases g1 : p = zA w t
      · rw [g1, decide_eq_true (rfl : zA w t = zA w t), decide_eq_false kab, decide_eq_false (show ¬ zB w t = zA w t from fun z => kab z.symm)]
        rfl
      · by_cases g2 : p = zB w t
        · rw [g2, decide_eq_true (rfl : zB w t = zB w t), decide_eq_false kab, decide_eq_false (show ¬ zB w t = zA w t from fun z => kab z.symm)]
          rfl
        · rw [decide_eq_false g1, decide_eq_false g2, decide_eq_false (show ¬ zA w t = p from fun z => g1 z.symm), decide_eq_false (show ¬ zB w t = p from fun z => g2 z.symm)]
          rfl
    · rw [c, zw_B kab]
      by_cases g1 : p = zA w t
      · rw [g1, decide_eq_true (rfl : zA w t = zA w t), decide_eq_false kab, decide_eq_false (show ¬ zB w t = zA w t from fun z => kab z.symm)]
        rfl
      · by_cases g2 : p = zB w t
        · rw [g2, decide_eq_true (rfl : zB w t = zB w t), decide_eq_false kab, decide_eq_false (show ¬ zB w t = zA w t from fun z => kab z.symm)]
          rfl
        · rw [decide_eq_false g1, decide_eq_false g2, decide_eq_false (show ¬ zA w t = p from fun z => g1 z.symm), decide_eq_false (show ¬ zB w t = p from fun z => g2 z.symm)]
          rfl
