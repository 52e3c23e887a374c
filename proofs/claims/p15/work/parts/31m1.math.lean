/-! ALL PIECES TOGETHER, apart from any heap: a state is a number with a digit in base seven a piece -/
def zd (x n : Nat) : Nat := x / 7 ^ n % 7
theorem zd_0 (x : Nat) : zd x 0 = x % 7 := by
  show x / 1 % 7 = x % 7
  rw [Nat.div_one]
theorem zd_1 (x : Nat) : zd x 1 = x / 7 % 7 := rfl
theorem zd_2 (x : Nat) : zd x 2 = x / 49 % 7 := rfl
theorem zd_3 (x : Nat) : zd x 3 = x / 343 % 7 := rfl
theorem zd_lt (x n : Nat) : zd x n < 7 := Nat.mod_lt _ (by decide)
def zm (f : Nat → Nat) : Nat := f 0 + 7 * f 1 + 49 * f 2 + 343 * f 3
theorem zm_lt {f : Nat → Nat} (h : ∀ n, n < 4 → f n < 7) : zm f < 2401 := by
  have h0 := h 0 (by omega)
  have h1 := h 1 (by omega)
  have h2 := h 2 (by omega)
  have h3 := h 3 (by omega)
  unfold zm
  omega
theorem zd_m {f : Nat → Nat} (h : ∀ n, n < 4 → f n < 7) : ∀ n, n < 4 → zd (zm f) n = f n := by
  have h0 := h 0 (by omega)
  have h1 := h 1 (by omega)
  have h2 := h 2 (by omega)
  have h3 := h 3 (by omega)
  intro n hn
  match n, hn with
  | 0, _ =>
    rw [zd_0]
    unfold zm
    omega
  | 1, _ =>
    rw [zd_1]
    unfold zm
    omega
  | 2, _ =>
    rw [zd_2]
    unfold zm
    omega
  | 3, _ =>
    rw [zd_3]
    unfold zm
    omega
  | n + 4, h => omega
theorem zm_d {x : Nat} (h : x < 2401) : zm (zd x) = x := by
  unfold zm
  rw [zd_0, zd_1, zd_2, zd_3]
  omega
theorem zm_c {f g : Nat → Nat} (h : ∀ n, n < 4 → f n = g n) : zm f = zm g := by
  unfold zm
  rw [h 0 (by omega), h 1 (by omega), h 2 (by omega), h 3 (by omega)]
theorem zd_x {x y : Nat} (hx : x < 2401) (hy : y < 2401) (h : ∀ n, n < 4 → zd x n = zd y n) : x = y := by
  rw [← zm_d hx, ← zm_d hy]
  exact zm_c h
/-- the village: news, people, times; who meets at a time, surely; what each holds, who is barred; from, for, worth, time by which -/
abbrev zW : Type := (Nat × Nat × Nat) × ((Nat → Nat) × (Nat → Nat) × (Nat → Prop)) × ((Nat → Nat) × (Nat → Nat → Bool)) × ((Nat → Nat) × (Nat → Nat) × (Nat → Int) × (Nat → Nat))
def zN (w : zW) : Nat := w.1.1
def zP (w : zW) : Nat := w.1.2.1
def zT (w : zW) : Nat := w.1.2.2
def zA (w : zW) : Nat → Nat := w.2.1.1
def zB (w : zW) : Nat → Nat := w.2.1.2.1
def zU (w : zW) : Nat → Prop := w.2.1.2.2
def zH (w : zW) : Nat → Nat := w.2.2.1.1
def zR (w : zW) : Nat → Nat → Bool := w.2.2.1.2
def zF (w : zW) : Nat → Nat := w.2.2.2.1
def zO (w : zW) : Nat → Nat := w.2.2.2.2.1
def zX (w : zW) : Nat → Int := w.2.2.2.2.2.1
def zL (w : zW) : Nat → Nat := w.2.2.2.2.2.2
/-- the village is as a village is -/
def zK (w : zW) : Prop := zN w ≤ 4 ∧ zP w ≤ 7 ∧ zT w ≤ 64 ∧ (∀ t, t < zT w → zA w t < zP w ∧ zB w t < zP w ∧ zA w t ≠ zB w t) ∧ (∀ n, n < zN w → zF w n < zP w ∧ zO w n < zP w ∧ zF w n ≠ zO w n ∧ 0 ≤ zX w n ∧ zX w n ≤ 99)
def zq (w : zW) (x p n : Nat) : Nat := if n < zN w ∧ zd x n = p then 1 else 0
/-- how many pieces p has -/
def zh (w : zW) (x p : Nat) : Nat := zq w x p 0 + zq w x p 1 + zq w x p 2 + zq w x p 3
def zI (w : zW) (x : Nat) : Prop := x < 2401 ∧ ∀ n, n < 4 → zN w ≤ n → zd x n = 0
def zV (w : zW) (x : Nat) : Prop := zI w x ∧ (∀ n, n < zN w → zd x n < zP w) ∧ ∀ p, p < zP w → zh w x p ≤ zH w p
/-- the other one of two -/
def zw (w : zW) (t p : Nat) : Nat := if p = zA w t then zB w t else if p = zB w t then zA w t else p
theorem zw_A (w : zW) (t : Nat) : zw w t (zA w t) = zB w t := if_pos rfl
theorem zw_B {w : zW} {t : Nat} (h : zA w t ≠ zB w t) : zw w t (zB w t) = zA w t := by
  unfold zw
  rw [if_neg (show ¬ zB w t = zA w t from fun e => h e.symm), if_pos rfl]
theorem zw_lt {w : zW} {t p : Nat} (ha : zA w t < 7) (hb : zB w t < 7) (hp : p < 7) : zw w t p < 7 := by
  unfold zw
  split
  · exact hb
  · split
    · exact ha
    · exact hp
theorem zw_w {w : zW} {t p : Nat} (h : zA w t ≠ zB w t) : zw w t (zw w t p) = p := by
  by_cases h1 : p = zA w t
  · rw [h1, zw_A, zw_B h]
  · by_cases h2 : p = zB w t
    · rw [h2, zw_B h, zw_A]
    · have e : zw w t p = p := by
        unfold zw
        rw [if_neg h1, if_neg h2]
      rw [e, e]
def zs (x n p : Nat) : Nat := zm (fun m => if m = n then p else zd x m)
theorem zs_b {x n p : Nat} (hp : p < 7) : ∀ m, m < 4 → (if m = n then p else zd x m) < 7 := by
  intro m _
  split
  · exact hp
  · exact zd_lt _ _
theorem zs_lt {x n p : Nat} (hp : p < 7) : zs x n p < 2401 := zm_lt (zs_b hp)
theorem zs_d {x n p : Nat} (hp : p < 7) {m : Nat} (hm : m < 4) : zd (zs x n p) m = if m = n then p else zd x m := zd_m (zs_b hp) m hm
def zf (w : zW) (t x : Nat) (S : Nat → Bool) : Nat := zm (fun n => if S n = true then zw w t (zd x n) else zd x n)
theorem zf_b {w : zW} {t x : Nat} {S : Nat → Bool} (ha : zA w t < 7) (hb : zB w t < 7) : ∀ m, m < 4 → (if S m = true then zw w t (zd x m) else zd x m) < 7 := by
  intro m _
  split
  · exact zw_lt ha hb (zd_lt _ _)
  · exact zd_lt _ _
theorem zf_lt {w : zW} {t x : Nat} {S : Nat → Bool} (ha : zA w t < 7) (hb : zB w t < 7) : zf w t x S < 2401 := zm_lt (zf_b ha hb)
theorem zf_d {w : zW} {t x : Nat} {S : Nat → Bool} (ha : zA w t < 7) (hb : zB w t < 7) {m : Nat} (hm : m < 4) : zd (zf w t x S) m = if S m = true then zw w t (zd x m) else zd x m := zd_m (zf_b ha hb) m hm
/-- one of the two has it, and the other isn't barred -/
def zt (w : zW) (t x n : Nat) : Prop := (zd x n = zA w t ∧ zR w n (zB w t) = false) ∨ (zd x n = zB w t ∧ zR w n (zA w t) = false)
def zg (w : zW) (t x : Nat) (mv : Nat → Bool) (n : Nat) : Prop := n < zN w ∧ mv n = false ∧ zt w t x n ∧ zh w x (zw w t (zd x n)) < zH w (zw w t (zd x n))
def zj (mv : Nat → Bool) (n : Nat) : Nat → Bool := fun k => mv k || decide (k = n)
theorem zj_n (mv : Nat → Bool) (n : Nat) : zj mv n n = true := by
  unfold zj
  rw [decide_eq_true rfl, Bool.or_true]
theorem zj_o {mv : Nat → Bool} {n k : Nat} (h : k ≠ n) : zj mv n k = mv k := by
  unfold zj
  rw [decide_eq_false h, Bool.or_false]
/-- what the telling of all, one behind the other, comes to -/
def zv (w : zW) (t : Nat) : Nat → Nat → (Nat → Bool) → Nat → Prop
  | 0, x, _, y => y = x
  | f + 1, x, mv, y => y = x ∨ (zU w t ∧ ∃ n, zg w t x mv n ∧ zv w t f (zs x n (zw w t (zd x n))) (zj mv n) y)
theorem zv_0 {w : zW} {t x : Nat} {mv : Nat → Bool} {y : Nat} : zv w t 0 x mv y ↔ y = x := Iff.rfl
theorem zv_s {w : zW} {t f x : Nat} {mv : Nat → Bool} {y : Nat} : zv w t (f + 1) x mv y ↔ (y = x ∨ (zU w t ∧ ∃ n, zg w t x mv n ∧ zv w t f (zs x n (zw w t (zd x n))) (zj mv n) y)) := Iff.rfl
/-- one meeting leads from x to y -/
def zY (w : zW) (t x y : Nat) : Prop := zv w t 4 x (fun _ => false) y
/-- a set that can go over -/
def zS (w : zW) (t x : Nat) (S : Nat → Bool) : Prop := zU w t ∧ (∀ n, S n = true → n < zN w ∧ zt w t x n) ∧ zh w x (zA w t) + zh w x (zB w t) < zH w (zA w t) + zH w (zB w t)
/-- one piece moved: what each has -/
theorem zh_s {w : zW} (k4 : zN w ≤ 4) {x n q : Nat} (hn : n < zN w) (hq : q < 7) (r : Nat) : zh w (zs x n q) r + (if zd x n = r then 1 else 0) = zh w x r + (if q = r then 1 else 0) := by
  have o : ∀ m, m < 4 → m ≠ n → zq w (zs x n q) r m = zq w x r m := fun m hm h => by
    unfold zq
    rw [zs_d hq hm, if_neg h]
  have a : zq w (zs x n q) r n = if q = r then 1 else 0 := by
    unfold zq
    rw [zs_d hq (by omega), if_pos rfl]
    by_cases e : q = r
    · rw [if_pos ⟨hn, e⟩, if_pos e]
    · rw [if_neg (show ¬ (n < zN w ∧ q = r) from fun h => e h.2), if_neg e]
  have b : zq w x r n = if zd x n = r then 1 else 0 := by
    unfold zq
    by_cases e : zd x n = r
    · rw [if_pos ⟨hn, e⟩, if_pos e]
    · rw [if_neg (show ¬ (n < zN w ∧ zd x n = r) from fun h => e h.2), if_neg e]
  rw [← a, ← b]
  unfold zh
  match n, hn, o with
  | 0, _, o =>
    have o1 := o 1 (by omega) (by omega)
    have o2 := o 2 (by omega) (by omega)
    have o3 := o 3 (by omega) (by omega)
    omega
  | 1, _, o =>
    have o1 := o 0 (by omega) (by omega)
    have o2 := o 2 (by omega) (by omega)
    have o3 := o 3 (by omega) (by omega)
    omega
  | 2, _, o =>
    have o1 := o 0 (by omega) (by omega)
    have o2 := o 1 (by omega) (by omega)
    have o3 := o 3 (by omega) (by omega)
    omega
  | 3, _, o =>
    have o1 := o 0 (by omega) (by omega)
    have o2 := o 1 (by omega) (by omega)
    have o3 := o 2 (by omega) (by omega)
    omega
  | n + 4, h, _ => omega
def zy (w : zW) (S : Nat → Bool) (x r n : Nat) : Nat := if S n = true ∧ n < zN w ∧ zd x n = r then 1 else 0
/-- how many of a set are with r -/
def zc (w : zW) (S : Nat → Bool) (x r : Nat) : Nat := zy w S x r 0 + zy w S x r 1 + zy w S x r 2 + zy w S x r 3
theorem zq_1 {w : zW} {x p n : Nat} (h1 : n < zN w) (h2 : zd x n = p) : zq w x p n = 1 := if_pos ⟨h1, h2⟩
theorem zq_2 {w : zW} {x p n : Nat} (h2 : zd x n ≠ p) : zq w x p n = 0 := if_neg (fun h => h2 h.2)
theorem zq_3 {w : zW} {x p n : Nat} (h1 : ¬ n < zN w) : zq w x p n = 0 := if_neg (fun h => h1 h.1)
theorem zy_1 {w : zW} {S : Nat → Bool} {x p n : Nat} (h0 : S n = true) (h1 : n < zN w) (h2 : zd x n = p) : zy w S x p n = 1 := if_pos ⟨h0, h1, h2⟩
theorem zy_2 {w : zW} {S : Nat → Bool} {x p n : Nat} (h2 : zd x n ≠ p) : zy w S x p n = 0 := if_neg (fun h => h2 h.2.2)
theorem zy_3 {w : zW} {S : Nat → Bool} {x p n : Nat} (h1 : ¬ n < zN w) : zy w S x p n = 0 := if_neg (fun h => h1 h.2.1)
theorem zy_4 {w : zW} {S : Nat → Bool} {x p n : Nat} (h1 : ¬ S n = true) : zy w S x p n = 0 := if_neg (fun h => h1 h.1)
theorem zq_f {w : zW} {t x : Nat} {S : Nat → Bool} (ha : zA w t < 7) (hb : zB w t < 7) (hab : zA w t ≠ zB w t) {n : Nat} (hn : n < 4) :
    zq w (zf w t x S) (zA w t) n + zy w S x (zA w t) n = zq w x (zA w t) n + zy w S x (zB w t) n ∧ zq w (zf w t x S) (zB w t) n + zy w S x (zB w t) n = zq w x (zB w t) n + zy w S x (zA w t) n ∧ ∀ r, r ≠ zA w t → r ≠ zB w t → zq w (zf w t x S) r n = zq w x r n := by
  by_cases h1 : n < zN w
  rotate_left
  · refine ⟨?_, ?_, fun r _ _ => ?_⟩
    · rw [zq_3 h1, zq_3 h1, zy_3 h1, zy_3 h1]
    · rw [zq_3 h1, zq_3 h1, zy_3 h1, zy_3 h1]
    · rw [zq_3 h1, zq_3 h1]
  have e := zf_d (x := x) (S := S) ha hb hn
  by_cases h0 : S n = true
  rotate_left
  · rw [if_neg h0] at e
    have q : ∀ r, zq w (zf w t x S) r n = zq w x r n := fun r => by
      unfold zq
      rw [e]
    exact ⟨by rw [q, zy_4 h0, zy_4 h0], by rw [q, zy_4 h0, zy_4 h0], fun r _ _ => q r⟩
  rw [if_pos h0] at e
  by_cases hA : zd x n = zA w t
  · rw [hA, zw_A] at e
    have nB : zd x n ≠ zB w t := by rw [hA]; exact hab
    refine ⟨?_, ?_, fun r r1 r2 => ?_⟩
    · rw [zq_2 (by rw [e]; exact fun h => hab h.symm), zy_1 h0 h1 hA, zq_1 h1 hA, zy_2 nB]
    · rw [zq_1 h1 e, zy_2 nB, zq_2 nB, zy_1 h0 h1 hA]
    · rw [zq_2 (by rw [e]; exact fun h => r2 h.symm), zq_2 (by rw [hA]; exact fun h => r1 h.symm)]
  by_cases hB : zd x n = zB w t
  · rw [hB, zw_B hab] at e
    refine ⟨?_, ?_, fun r r1 r2 => ?_⟩
    · rw [zq_1 h1 e, zy_2 hA, zq_2 hA, zy_1 h0 h1 hB]
    · rw [zq_2 (by rw [e]; exact hab), zy_1 h0 h1 hB, zq_1 h1 hB, zy_2 hA]
    · rw [zq_2 (by rw [e]; exact fun h => r1 h.symm), zq_2 (by rw [hB]; exact fun h => r2 h.symm)]
  · have e2 : zw w t (zd x n) = zd x n := by
      unfold zw
      rw [if_neg hA, if_neg hB]
    rw [e2] at e
    have q : ∀ r, zq w (zf w t x S) r n = zq w x r n := fun r => by
      unfold zq
      rw [e]
    exact ⟨by rw [q, zy_2 hA, zy_2 hB], by rw [q, zy_2 hA, zy_2 hB], fun r _ _ => q r⟩
/-- a set moved: what each has -/
theorem zh_f {w : zW} {t x : Nat} {S : Nat → Bool} (ha : zA w t < 7) (hb : zB w t < 7) (hab : zA w t ≠ zB w t) :
    zh w (zf w t x S) (zA w t) + zc w S x (zA w t) = zh w x (zA w t) + zc w S x (zB w t) ∧ zh w (zf w t x S) (zB w t) + zc w S x (zB w t) = zh w x (zB w t) + zc w S x (zA w t) ∧ ∀ r, r ≠ zA w t → r ≠ zB w t → zh w (zf w t x S) r = zh w x r := by
  obtain ⟨a0, b0, c0⟩ := zq_f (x := x) (S := S) ha hb hab (n := 0) (by omega)
  obtain ⟨a1, b1, c1⟩ := zq_f (x := x) (S := S) ha hb hab (n := 1) (by omega)
  obtain ⟨a2, b2, c2⟩ := zq_f (x := x) (S := S) ha hb hab (n := 2) (by omega)
  obtain ⟨a3, b3, c3⟩ := zq_f (x := x) (S := S) ha hb hab (n := 3) (by omega)
  refine ⟨?_, ?_, fun r r1 r2 => ?_⟩
  · unfold zh zc
    omega
  · unfold zh zc
    omega
  · unfold zh
    rw [c0 r r1 r2, c1 r r1 r2, c2 r r1 r2, c3 r r1 r2]
theorem zc_p {w : zW} {S : Nat → Bool} {x r n : Nat} (k4 : zN w ≤ 4) (h0 : S n = true) (h1 : n < zN w) (h2 : zd x n = r) : 1 ≤ zc w S x r := by
  have e := zy_1 (w := w) (S := S) (x := x) (p := r) h0 h1 h2
  unfold zc
  match n, h1, e with
  | 0, _, e => omega
  | 1, _, e => omega
  | 2, _, e => omega
  | 3, _, e => omega
  | n + 4, h, _ => omega
theorem zc_0 {w : zW} {S : Nat → Bool} {x r : Nat} (h : ∀ n, S n = true → n < zN w → zd x n ≠ r) : zc w S x r = 0 := by
  have e : ∀ n, zy w S x r n = 0 := fun n => if_neg (fun g => h n g.1 g.2.1 g.2.2)
  unfold zc
  rw [e, e, e, e]
/-- the village at a time -/
theorem zK_t {w : zW} (hK : zK w) {t : Nat} (ht : t < zT w) : zA w t < 7 ∧ zB w t < 7 ∧ zA w t ≠ zB w t ∧ zA w t < zP w ∧ zB w t < zP w := by
  obtain ⟨-, k7, -, k, -⟩ := hK
  obtain ⟨a, b, c⟩ := k t ht
  exact ⟨by omega, by omega, c, a, b⟩
/-- one piece moved, with room: a state again -/
theorem zV_s {w : zW} (hK : zK w) {t : Nat} (ht : t < zT w) {x n : Nat} (hx : zV w x) {mv : Nat → Bool} (hg : zg w t x mv n) : zV w (zs x n (zw w t (zd x n))) := by
  obtain ⟨ka, kb, kab, kap, kbp⟩ := zK_t hK ht
  obtain ⟨h1, h2, h3, h4⟩ := hg
  obtain ⟨⟨x1, x2⟩, x3, x4⟩ := hx
  have k4 := hK.1
  have ql : zw w t (zd x n) < 7 := zw_lt ka kb (zd_lt _ _)
  have qp : zw w t (zd x n) < zP w := by
    rcases h3 with ⟨e, -⟩ | ⟨e, -⟩
    · rw [e, zw_A]; exact kbp
    · rw [e, zw_B kab]; exact kap
  refine ⟨⟨zs_lt ql, fun m hm hmn => ?_⟩, fun m hm => ?_, fun p hp => ?_⟩
  · rw [zs_d ql hm, if_neg (by omega)]
    exact x2 m hm hmn
  · rw [zs_d ql (by omega)]
    split
    · exact qp
    · exact x3 m hm
  · have e := zh_s k4 (x := x) h1 ql p
    have l := x4 p hp
    by_cases g : zw w t (zd x n) = p
    · rw [if_pos g] at e
      rw [g] at h4
      omega
    · rw [if_neg g] at e
      omega
theorem zr_g {w : zW} (hK : zK w) {t : Nat} (ht : t < zT w) {x n : Nat} (hx : zV w x) {mv : Nat → Bool} (hg : zg w t x mv n) : zh w x (zA w t) + zh w x (zB w t) < zH w (zA w t) + zH w (zB w t) := by
  obtain ⟨ka, kb, kab, kap, kbp⟩ := zK_t hK ht
  obtain ⟨h1, h2, h3, h4⟩ := hg
  have l1 := hx.2.2 _ kap
  have l2 := hx.2.2 _ kbp
  rcases h3 with ⟨e, -⟩ | ⟨e, -⟩
  · rw [e, zw_A] at h4
    omega
  · rw [e, zw_B kab] at h4
    omega
theorem zf_0 {w : zW} {t x : Nat} {S : Nat → Bool} (hx : x < 2401) (h : ∀ n, n < 4 → S n = false) : zf w t x S = x := by
  have e : zf w t x S = zm (zd x) := zm_c fun n hn => by rw [h n hn, if_neg (by decide)]
  rw [e, zm_d hx]
/-- one piece and a set: a set -/
theorem zf_s {w : zW} {t : Nat} (ka : zA w t < 7) (kb : zB w t < 7) {x n : Nat} {S S' : Nat → Bool} (h0 : S n = true) (h1 : S' n = false) (h2 : ∀ k, k ≠ n → S' k = S k) : zf w t (zs x n (zw w t (zd x n))) S' = zf w t x S := by
  have ql : zw w t (zd x n) < 7 := zw_lt ka kb (zd_lt _ _)
  refine zm_c fun m hm => ?_
  rw [zs_d ql hm]
  by_cases e : m = n
  · rw [e, if_pos rfl, h1, h0, if_neg (by decide), if_pos rfl]
  · rw [if_neg e, h2 m e]
theorem zt_s {w : zW} {t : Nat} (ka : zA w t < 7) (kb : zB w t < 7) {x n m : Nat} (hm : m < 4) (e : m ≠ n) : zt w t (zs x n (zw w t (zd x n))) m ↔ zt w t x m := by
  have ql : zw w t (zd x n) < 7 := zw_lt ka kb (zd_lt _ _)
  unfold zt
  rw [zs_d ql hm, if_neg e]
/-- what is come to is a set moved -/
theorem zv_f {w : zW} (hK : zK w) {t : Nat} (ht : t < zT w) {y : Nat} : ∀ (f x : Nat) (mv : Nat → Bool), zV w x → zv w t f x mv y → (y = x ∨ ∃ S, (∀ n, mv n = true → S n = false) ∧ zS w t x S ∧ y = zf w t x S) ∧ zV w y := by
  obtain ⟨ka, kb, kab, kap, kbp⟩ := zK_t hK ht
  have k4 := hK.1
  intro f
  induction f with
  | zero =>
    intro x mv hx h
    have e : y = x := h
    exact ⟨Or.inl e, by rw [e]; exact hx⟩
  | succ f ih =>
    intro x mv hx h
    rcases zv_s.mp h with e | ⟨hu, n, hg, hv⟩
    · exact ⟨Or.inl e, by rw [e]; exact hx⟩
    · have hx' := zV_s hK ht hx hg
      have hr := zr_g hK ht hx hg
      obtain ⟨g1, g2, g3, g4⟩ := hg
      obtain ⟨h1, h2⟩ := ih _ _ hx' hv
      refine ⟨Or.inr ?_, h2⟩
      rcases h1 with e | ⟨S', s1, ⟨-, s2, -⟩, s3⟩
      · refine ⟨fun k => decide (k = n), fun k hk => ?_, ⟨hu, fun k hk => ?_, hr⟩, ?_⟩
        · refine decide_eq_false (fun e => ?_)
          rw [e, g2] at hk
          cases hk
        · have e2 : k = n := of_decide_eq_true hk
          rw [e2]
          exact ⟨g1, g3⟩
        · rw [e, ← zf_s (S := fun k => decide (k = n)) (S' := fun _ => false) ka kb (decide_eq_true rfl) rfl (fun k hk => (decide_eq_false hk).symm)]
          exact (zf_0 hx'.1.1 (fun _ _ => rfl)).symm
      · have sn : S' n = false := s1 n (zj_n mv n)
        refine ⟨fun k => S' k || decide (k = n), fun k hk => ?_, ⟨hu, fun k hk => ?_, hr⟩, ?_⟩
        · have ne : k ≠ n := fun e => by
            rw [e, g2] at hk
            cases hk
          have z := s1 k (by rw [zj_o ne]; exact hk)
          show (S' k || decide (k = n)) = false
          rw [z, decide_eq_false ne]
          rfl
        · by_cases e2 : k = n
          · rw [e2]
            exact ⟨g1, g3⟩
          · have hk2 : S' k = true := by
              have hk3 : (S' k || decide (k = n)) = true := hk
              rw [decide_eq_false e2, Bool.or_false] at hk3
              exact hk3
            obtain ⟨a1, a2⟩ := s2 k hk2
            exact ⟨a1, (zt_s ka kb (by omega) e2).mp a2⟩
        · rw [s3]
          exact zf_s ka kb (by show (S' n || decide (n = n)) = true; rw [decide_eq_true rfl, Bool.or_true]) sn (fun k hk => by show S' k = (S' k || decide (k = n)); rw [decide_eq_false hk, Bool.or_false])
def zn (S : Nat → Bool) : Nat := (if S 0 = true then 1 else 0) + (if S 1 = true then 1 else 0) + (if S 2 = true then 1 else 0) + (if S 3 = true then 1 else 0)
theorem zn_0 {S : Nat → Bool} (h : zn S = 0) : ∀ n, n < 4 → S n = false := by
  unfold zn at h
  intro n hn
  match n, hn with
  | 0, _ => cases e : S 0 with
    | false => rfl
    | true => rw [e, if_pos rfl] at h; omega
  | 1, _ => cases e : S 1 with
    | false => rfl
    | true => rw [e, if_pos (rfl : true = true)] at h; omega
  | 2, _ => cases e : S 2 with
    | false => rfl
    | true => rw [e, if_pos (rfl : true = true)] at h; omega
  | 3, _ => cases e : S 3 with
    | false => rfl
    | true => rw [e, if_pos (rfl : true = true)] at h; omega
  | n + 4, h => omega
theorem zn_s {S S' : Nat → Bool} {n : Nat} (hn : n < 4) (h0 : S n = true) (h1 : S' n = false) (h2 : ∀ k, k ≠ n → S' k = S k) : zn S' + 1 = zn S := by
  unfold zn
  match n, hn with
  | 0, _ =>
    rw [h0, h1, h2 1 (by omega), h2 2 (by omega), h2 3 (by omega), if_neg (by decide), if_pos rfl]
    omega
  | 1, _ =>
    rw [h0, h1, h2 0 (by omega), h2 2 (by omega), h2 3 (by omega), if_neg (show ¬ (false = true) by decide), if_pos (rfl : true = true)]
    omega
  | 2, _ =>
    rw [h0, h1, h2 0 (by omega), h2 1 (by omega), h2 3 (by omega), if_neg (show ¬ (false = true) by decide), if_pos (rfl : true = true)]
    omega
  | 3, _ =>
    rw [h0, h1, h2 0 (by omega), h2 1 (by omega), h2 2 (by omega), if_neg (show ¬ (false = true) by decide), if_pos (rfl : true = true)]
  | n + 4, h => omega
/-- a set moved is come to -/
theorem zv_of {w : zW} (hK : zK w) {t : Nat} (ht : t < zT w) (hu : zU w t) : ∀ (f x : Nat) (mv S : Nat → Bool), zn S ≤ f → zV w x → zV w (zf w t x S) → (∀ n, S n = true → n < zN w ∧ mv n = false ∧ zt w t x n) → zh w x (zA w t) + zh w x (zB w t) < zH w (zA w t) + zH w (zB w t) → zv w t f x mv (zf w t x S) := by
  obtain ⟨ka, kb, kab, kap, kbp⟩ := zK_t hK ht
  have k4 := hK.1
  intro f
  induction f with
  | zero =>
    intro x mv S hS hx hy hs hr
    exact zf_0 hx.1.1 (zn_0 (by omega))
  | succ f ih =>
    intro x mv S hS hx hy hs hr
    by_cases em : ∀ n, n < 4 → S n = false
    · exact Or.inl (zf_0 hx.1.1 em)
    obtain ⟨m, hm⟩ : ∃ m, S m = true := Classical.byContradiction fun h => em fun n _ => by
      cases e : S n with
      | false => rfl
      | true => exact absurd ⟨n, e⟩ h
    have ch : ∃ n, S n = true ∧ zh w x (zw w t (zd x n)) < zH w (zw w t (zd x n)) := by
      refine Classical.byContradiction fun no => ?_
      have full : ∀ n, S n = true → zH w (zw w t (zd x n)) ≤ zh w x (zw w t (zd x n)) := fun n hn => Classical.byContradiction fun g => no ⟨n, hn, by omega⟩
      obtain ⟨f1, f2, -⟩ := zh_f (x := x) (S := S) ka kb kab
      have y1 := hy.2.2 _ kap
      have y2 := hy.2.2 _ kbp
      obtain ⟨m1, m2, m3⟩ := hs m hm
      have fm := full m hm
      rcases m3 with ⟨e, -⟩ | ⟨e, -⟩
      · rw [e, zw_A] at fm
        have z : zc w S x (zB w t) = 0 := zc_0 fun n n0 n1 e2 => by
          have fn := full n n0
          rw [e2, zw_B kab] at fn
          omega
        have z2 := zc_p k4 hm m1 e
        omega
      · rw [e, zw_B kab] at fm
        have z : zc w S x (zA w t) = 0 := zc_0 fun n n0 n1 e2 => by
          have fn := full n n0
          rw [e2, zw_A] at fn
          omega
        have z2 := zc_p k4 hm m1 e
        omega
    obtain ⟨n, n0, nr⟩ := ch
    obtain ⟨n1, n2, n3⟩ := hs n n0
    have hg : zg w t x mv n := ⟨n1, n2, n3, nr⟩
    have ql : zw w t (zd x n) < 7 := zw_lt ka kb (zd_lt _ _)
    have p0 : (S n && !decide (n = n)) = false := by rw [decide_eq_true rfl]; simp
    have po : ∀ k, k ≠ n → (S k && !decide (k = n)) = S k := fun k hk => by rw [decide_eq_false hk]; simp
    have e := zf_s (w := w) (t := t) (x := x) (S := S) (S' := fun k => S k && !decide (k = n)) ka kb n0 p0 po
    have cn := zn_s (S := S) (S' := fun k => S k && !decide (k = n)) (by omega) n0 p0 po
    refine Or.inr ⟨hu, n, hg, ?_⟩
    rw [← e]
    refine ih _ _ _ (by omega) (zV_s hK ht hx hg) (by rw [e]; exact hy) (fun k hk => ?_) ?_
    · have hk' : (S k && !decide (k = n)) = true := hk
      have ne : k ≠ n := fun g => by
        rw [g, p0] at hk'
        cases hk'
      rw [po k ne] at hk'
      obtain ⟨a1, a2, a3⟩ := hs k hk'
      exact ⟨a1, by rw [zj_o ne]; exact a2, (zt_s ka kb (by omega) ne).mpr a3⟩
    · have s1 := zh_s k4 (x := x) n1 ql (zA w t)
      have s2 := zh_s k4 (x := x) n1 ql (zB w t)
      rcases n3 with ⟨e2, -⟩ | ⟨e2, -⟩
      · rw [e2, zw_A] at s1 s2 ⊢
        rw [if_pos rfl, if_neg (show ¬ zB w t = zA w t from fun h => kab h.symm)] at s1
        rw [if_neg kab, if_pos rfl] at s2
        omega
      · rw [e2, zw_B kab] at s1 s2 ⊢
        rw [if_neg (show ¬ zB w t = zA w t from fun h => kab h.symm), if_pos rfl] at s1
        rw [if_pos rfl, if_neg kab] at s2
        omega
/-- one meeting -/
theorem zY_i {w : zW} (hK : zK w) {t : Nat} (ht : t < zT w) {x y : Nat} (hx : zV w x) : zY w t x y ↔ (y = x ∨ ∃ S, zS w t x S ∧ y = zf w t x S ∧ zV w y) := by
  constructor
  · intro h
    obtain ⟨h1, h2⟩ := zv_f hK ht 4 x _ hx h
    rcases h1 with e | ⟨S, -, s1, s2⟩
    · exact Or.inl e
    · exact Or.inr ⟨S, s1, s2, h2⟩
  · intro h
    rcases h with e | ⟨S, ⟨s1, s2, s3⟩, e, hy⟩
    · exact Or.inl e
    · rw [e] at hy ⊢
      refine zv_of hK ht s1 4 x _ S ?_ hx hy (fun n hn => ⟨(s2 n hn).1, rfl, (s2 n hn).2⟩) s3
      unfold zn
      split <;> split <;> split <;> split <;> omega
theorem zY_r (w : zW) (t x : Nat) : zY w t x x := Or.inl rfl
theorem zY_V {w : zW} (hK : zK w) {t : Nat} (ht : t < zT w) {x y : Nat} (hx : zV w x) (h : zY w t x y) : zV w y := (zv_f hK ht 4 x _ hx h).2
/-- two steps by one meeting are one -/
theorem zY_t {w : zW} (hK : zK w) {t : Nat} (ht : t < zT w) {x y z : Nat} (hx : zV w x) (h1 : zY w t x y) (h2 : zY w t y z) : zY w t x z := by
  obtain ⟨ka, kb, kab, kap, kbp⟩ := zK_t hK ht
  have k4 := hK.1
  have hy := zY_V hK ht hx h1
  have hz := zY_V hK ht hy h2
  rcases (zY_i hK ht hx).mp h1 with e | ⟨S, ⟨s1, s2, s3⟩, e, -⟩
  · rw [← e]
    exact h2
  rcases (zY_i hK ht hy).mp h2 with e' | ⟨S', ⟨s1', s2', s3'⟩, e', -⟩
  · rw [e']
    exact h1
  have dy : ∀ n, n < 4 → zd y n = if S n = true then zw w t (zd x n) else zd x n := fun n hn => by rw [e]; exact zf_d ka kb hn
  refine (zY_i hK ht hx).mpr (Or.inr ⟨fun n => S n ^^ S' n, ⟨s1, fun n hn => ?_, s3⟩, ?_, hz⟩)
  · have hn' : (S n ^^ S' n) = true := hn
    cases a : S n with
    | true => exact s2 n a
    | false =>
      rw [a, Bool.false_xor] at hn'
      obtain ⟨b1, b2⟩ := s2' n hn'
      refine ⟨b1, ?_⟩
      unfold zt at b2 ⊢
      rw [dy n (by omega), a, if_neg (by decide)] at b2
      exact b2
  · rw [e']
    refine zm_c fun n hn => ?_
    rw [dy n hn]
    show (if S' n = true then zw w t (if S n = true then zw w t (zd x n) else zd x n) else if S n = true then zw w t (zd x n) else zd x n) = if (S n ^^ S' n) = true then zw w t (zd x n) else zd x n
    cases a : S n with
    | true =>
      cases b : S' n with
      | true => exact zw_w kab
      | false => rfl
    | false =>
      cases b : S' n with
      | true => rfl
      | false => rfl
