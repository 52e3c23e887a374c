/-! ways over all times, forward and back; the greatest of what they are worth -/
def zi1 (w : zW) (b x n : Nat) : Int := if n < zN w ∧ zL w n = b ∧ zd x n = zO w n then zX w n else 0
/-- what comes in time at b -/
def zi (w : zW) (b x : Nat) : Int := zi1 w b x 0 + zi1 w b x 1 + zi1 w b x 2 + zi1 w b x 3
theorem zi1_b {w : zW} (hK : zK w) (b x n : Nat) : 0 ≤ zi1 w b x n ∧ zi1 w b x n ≤ 99 := by
  unfold zi1
  split
  · next h => 
    obtain ⟨-, -, -, -, k⟩ := hK
    obtain ⟨-, -, -, k1, k2⟩ := k n h.1
    exact ⟨k1, k2⟩
  · omega
theorem zi_b {w : zW} (hK : zK w) (b x : Nat) : 0 ≤ zi w b x ∧ zi w b x ≤ 396 := by
  have h0 := zi1_b hK b x 0
  have h1 := zi1_b hK b x 1
  have h2 := zi1_b hK b x 2
  have h3 := zi1_b hK b x 3
  unfold zi
  omega
/-- all as at first -/
def zE (w : zW) : Nat := zm (fun n => if n < zN w then zF w n else 0)
theorem zE_b {w : zW} (hK : zK w) : ∀ n, n < 4 → (if n < zN w then zF w n else 0) < 7 := by
  obtain ⟨-, k7, -, -, k⟩ := hK
  intro n _
  split
  · next h =>
    obtain ⟨a, -⟩ := k n h
    omega
  · omega
theorem zE_d {w : zW} (hK : zK w) {n : Nat} (hn : n < 4) : zd (zE w) n = if n < zN w then zF w n else 0 := zd_m (zE_b hK) n hn
theorem zE_lt {w : zW} (hK : zK w) : zE w < 2401 := zm_lt (zE_b hK)
/-- forward -/
def zp (w : zW) : Nat → Nat → Int → Prop
  | 0, y, v => y = zE w ∧ v = 0
  | t + 1, y, v => ∃ x u, zp w t x u ∧ zY w t x y ∧ v = u + zi w (t + 1) y
theorem zp_0 {w : zW} {y : Nat} {v : Int} : zp w 0 y v ↔ (y = zE w ∧ v = 0) := Iff.rfl
theorem zp_s {w : zW} {t y : Nat} {v : Int} : zp w (t + 1) y v ↔ ∃ x u, zp w t x u ∧ zY w t x y ∧ v = u + zi w (t + 1) y := Iff.rfl
/-- back: k times are left -/
def zk (w : zW) : Nat → Nat → Int → Prop
  | 0, _, v => v = 0
  | k + 1, x, v => ∃ y u, zY w (zT w - (k + 1)) x y ∧ zk w k y u ∧ v = zi w (zT w - k) y + u
theorem zk_0 {w : zW} {x : Nat} {v : Int} : zk w 0 x v ↔ v = 0 := Iff.rfl
theorem zk_s {w : zW} {k x : Nat} {v : Int} : zk w (k + 1) x v ↔ ∃ y u, zY w (zT w - (k + 1)) x y ∧ zk w k y u ∧ v = zi w (zT w - k) y + u := Iff.rfl
/-- the greatest -/
def zx (P : Int → Prop) (m : Int) : Prop := P m ∧ ∀ v, P v → v ≤ m
theorem zx_u {P : Int → Prop} {a b : Int} (h1 : zx P a) (h2 : zx P b) : a = b := by
  have := h1.2 b h2.1
  have := h2.2 a h1.1
  omega
theorem zx_c {P Q : Int → Prop} {a : Int} (h : ∀ v, P v ↔ Q v) (h1 : zx P a) : zx Q a := ⟨(h a).mp h1.1, fun v hv => h1.2 v ((h v).mpr hv)⟩
theorem zp_j {w : zW} (v : Int) : ∀ t, t ≤ zT w → ((∃ x u1 u2, zp w t x u1 ∧ zk w (zT w - t) x u2 ∧ v = u1 + u2) ↔ zk w (zT w) (zE w) v) := by
  intro t
  induction t with
  | zero =>
    intro _
    constructor
    · rintro ⟨x, u1, u2, ⟨e1, e2⟩, h2, e3⟩
      rw [e1] at h2
      rw [e3, e2, Int.zero_add]
      exact h2
    · intro h
      exact ⟨zE w, 0, v, ⟨rfl, rfl⟩, h, (Int.zero_add v).symm⟩
  | succ t ih =>
    intro ht
    rw [← ih (by omega)]
    obtain ⟨k, hk⟩ : ∃ k, zT w - t = k + 1 := ⟨zT w - t - 1, by omega⟩
    have k1 : zT w - (t + 1) = k := by omega
    have k2 : zT w - (k + 1) = t := by omega
    have k3 : zT w - k = t + 1 := by omega
    rw [hk, k1]
    constructor
    · rintro ⟨y, u1, u2, ⟨x, u, h1, h2, e1⟩, h3, e2⟩
      refine ⟨x, u, zi w (t + 1) y + u2, h1, ⟨y, u2, by rw [k2]; exact h2, h3, by rw [k3]⟩, by omega⟩
    · rintro ⟨x, u1, u2, h1, ⟨y, u, h2, h3, e1⟩, e2⟩
      rw [k2] at h2
      rw [k3] at e1
      exact ⟨y, u1 + zi w (t + 1) y, u, ⟨x, u1, h1, h2, rfl⟩, h3, by omega⟩
theorem zp_T {w : zW} (v : Int) : (∃ y, zp w (zT w) y v) ↔ zk w (zT w) (zE w) v := by
  rw [← zp_j v (zT w) (Nat.le_refl _), Nat.sub_self]
  constructor
  · rintro ⟨y, h⟩
    exact ⟨y, v, 0, h, rfl, (Int.add_zero v).symm⟩
  · rintro ⟨y, u1, u2, h, e1, e2⟩
    have e1' : u2 = 0 := e1
    rw [e2, e1', Int.add_zero]
    exact ⟨y, h⟩
theorem zp_b {w : zW} (hK : zK w) : ∀ t y v, zp w t y v → 0 ≤ v ∧ v ≤ 396 * t := by
  intro t
  induction t with
  | zero =>
    rintro y v ⟨-, e⟩
    omega
  | succ t ih =>
    rintro y v ⟨x, u, h1, -, e⟩
    have a := ih x u h1
    have b := zi_b hK (t + 1) y
    omega
theorem zk_b {w : zW} (hK : zK w) : ∀ k x v, zk w k x v → 0 ≤ v ∧ v ≤ 396 * k := by
  intro k
  induction k with
  | zero =>
    intro x v e
    have e' : v = 0 := e
    omega
  | succ k ih =>
    rintro x v ⟨y, u, -, h1, e⟩
    have a := ih y u h1
    have b := zi_b hK (zT w - k) y
    omega
theorem zp_V {w : zW} (hK : zK w) (h0 : zV w (zE w)) : ∀ t, t ≤ zT w → ∀ y v, zp w t y v → zV w y := by
  intro t
  induction t with
  | zero =>
    rintro - y v ⟨e, -⟩
    rw [e]
    exact h0
  | succ t ih =>
    rintro ht y v ⟨x, u, h1, h2, -⟩
    exact zY_V hK (by omega) (ih (by omega) x u h1) h2
/-- who is come to -/
def zr (w : zW) (t y : Nat) : Prop := ∃ v, zp w t y v
theorem zr_0 {w : zW} {y : Nat} : zr w 0 y ↔ y = zE w := ⟨fun ⟨_, e, _⟩ => e, fun e => ⟨0, e, rfl⟩⟩
theorem zr_s {w : zW} {t y : Nat} : zr w (t + 1) y ↔ ∃ x, zr w t x ∧ zY w t x y := by
  constructor
  · rintro ⟨v, x, u, h1, h2, -⟩
    exact ⟨x, ⟨u, h1⟩, h2⟩
  · rintro ⟨x, ⟨u, h1⟩, h2⟩
    exact ⟨_, x, u, h1, h2, rfl⟩
theorem zr_m {w : zW} {t y : Nat} (h : zr w t y) : zr w (t + 1) y := zr_s.mpr ⟨y, h, zY_r w t y⟩
theorem zr_V {w : zW} (hK : zK w) (h0 : zV w (zE w)) {t y : Nat} (ht : t ≤ zT w) (h : zr w t y) : zV w y := by
  obtain ⟨v, h⟩ := h
  exact zp_V hK h0 t ht y v h
/-- the table of what each state is worth ahead of t; behind its meeting; behind it -/
def zQ (w : zW) (t : Nat) (W : Nat → Int) : Prop := ∀ y, y < 2401 → (0 ≤ W y → zx (zp w t y) (W y)) ∧ (W y < 0 → ∀ v, ¬ zp w t y v)
def zz (w : zW) (t y : Nat) (v : Int) : Prop := ∃ x, zp w t x v ∧ zY w t x y
def zZ (w : zW) (t : Nat) (W : Nat → Int) : Prop := ∀ y, y < 2401 → (0 ≤ W y → zx (zz w t y) (W y)) ∧ (W y < 0 → ∀ v, ¬ zz w t y v)
/-- a meeting passed -/
theorem zQ_Z {w : zW} (hK : zK w) (h0 : zV w (zE w)) {t : Nat} (ht : t < zT w) {W W' : Nat → Int} (h : zQ w t W) (lo : ∀ x y, x < 2401 → 0 ≤ W x → zY w t x y → W x ≤ W' y) (up : ∀ y, y < 2401 → 0 ≤ W' y → ∃ x, x < 2401 ∧ 0 ≤ W x ∧ zY w t x y ∧ W' y = W x) : zZ w t W' := by
  have lt : ∀ x v, zp w t x v → x < 2401 := fun x v hx => (zp_V hK h0 t (by omega) x v hx).1.1
  have le : ∀ x v y, zp w t x v → zY w t x y → v ≤ W' y := fun x v y hx hy => by
    have hl := lt x v hx
    obtain ⟨q1, q2⟩ := h x hl
    by_cases g : 0 ≤ W x
    · have a := (q1 g).2 v hx
      have b := lo x y hl g hy
      omega
    · exact absurd hx (q2 (by omega) v)
  intro y hy
  refine ⟨fun g => ?_, fun g v hv => ?_⟩
  · obtain ⟨x, x1, x2, x3, x4⟩ := up y hy g
    refine ⟨⟨x, ?_, x3⟩, fun v hv => ?_⟩
    · rw [x4]
      exact ((h x x1).1 x2).1
    · obtain ⟨x', a1, a2⟩ := hv
      exact le x' v y a1 a2
  · obtain ⟨x, a1, a2⟩ := hv
    have b := le x v y a1 a2
    have c := zp_b hK t x v a1
    omega
theorem zZ_Q {w : zW} {t : Nat} {W W' : Nat → Int} (hK : zK w) (h : zZ w t W) (e : ∀ y, y < 2401 → W' y = if 0 ≤ W y then W y + zi w (t + 1) y else W y) : zQ w (t + 1) W' := by
  intro y hy
  obtain ⟨h1, h2⟩ := h y hy
  have b := zi_b hK (t + 1) y
  rw [e y hy]
  by_cases g : 0 ≤ W y
  · rw [if_pos g]
    obtain ⟨⟨x, a1, a2⟩, a3⟩ := h1 g
    refine ⟨fun _ => ⟨⟨x, W y, a1, a2, rfl⟩, ?_⟩, fun g2 => absurd g2 (by omega)⟩
    rintro v ⟨x', u, c1, c2, c3⟩
    have := a3 u ⟨x', c1, c2⟩
    omega
  · rw [if_neg g]
    refine ⟨fun g2 => absurd g2 g, fun g2 v hv => ?_⟩
    obtain ⟨x', u, c1, c2, c3⟩ := hv
    exact h2 g2 u ⟨x', c1, c2⟩
/-- nothing comes of a time's meeting -/
def zC (w : zW) (t : Nat) (W : Nat → Int) : Prop := ∀ x y, x < 2401 → 0 ≤ W x → zY w t x y → W x ≤ W y
theorem zC_Z {w : zW} (hK : zK w) (h0 : zV w (zE w)) {t : Nat} (ht : t < zT w) {W : Nat → Int} (h : zQ w t W) (c : zC w t W) : zZ w t W :=
  zQ_Z hK h0 ht h c (fun y hy g => ⟨y, hy, g, zY_r w t y, rfl⟩)
theorem zv_c {w : zW} {t t' : Nat} (ha : zA w t = zA w t') (hb : zB w t = zB w t') (hu : zU w t ↔ zU w t') : ∀ f x mv y, zv w t f x mv y → zv w t' f x mv y := by
  intro f
  induction f with
  | zero => exact fun _ _ _ h => h
  | succ f ih =>
    intro x mv y h
    rcases h with e | ⟨u, n, g, hv⟩
    · exact Or.inl e
    · have e : zw w t (zd x n) = zw w t' (zd x n) := by
        unfold zw
        rw [ha, hb]
      obtain ⟨g1, g2, g3, g4⟩ := g
      refine Or.inr ⟨hu.mp u, n, ⟨g1, g2, ?_, by rw [← e]; exact g4⟩, by rw [← e]; exact ih _ _ _ hv⟩
      rcases g3 with ⟨a, b⟩ | ⟨a, b⟩
      · exact Or.inl ⟨a.trans ha, by rw [← hb]; exact b⟩
      · exact Or.inr ⟨a.trans hb, by rw [← ha]; exact b⟩
theorem zC_p {w : zW} {t t' : Nat} (ha : zA w t = zA w t') (hb : zB w t = zB w t') (hu : zU w t ↔ zU w t') {W : Nat → Int} (h : zC w t W) : zC w t' W :=
  fun x y hx g hy => h x y hx g (zv_c ha.symm hb.symm hu.symm 4 _ _ _ hy)
