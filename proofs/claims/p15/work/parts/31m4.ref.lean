/-- the reference holds the village -/
def zRf (w : zW) (I : Nat → Nat → Int32) : Prop := ((I 88 2).toInt = zN w ∧ (I 88 0).toInt = zP w ∧ (I 86 26).toInt = zT w) ∧ (∀ t, t < zT w → ∃ b : Nat, b < 16 ∧ (I 101 t).toInt = b ∧ (I 92 b).toInt = zA w t ∧ (I 93 b).toInt = zB w t ∧ ((I 95 b).toInt = 10 ↔ zU w t)) ∧ (∀ p, p < zP w → (I 90 p).toInt = zH w p) ∧ (∀ n, n < zN w → (I 96 n).toInt = zF w n ∧ (I 97 n).toInt = zO w n ∧ (I 99 n).toInt = zX w n ∧ (I 103 n).toInt = zL w n ∧ ∀ p, p < 7 → tb (I 100 n) p = zR w n p)
theorem zRf_e {w : zW} {I I1 : Nat → Nat → Int32} (h : zRf w I) (e : ∀ c k, 86 ≤ c → c < 110 → ¬ (c = 86 ∧ 46 ≤ k) → I1 c k = I c k) : zRf w I1 := by
  obtain ⟨⟨h1, h2, h3⟩, h4, h5, h6⟩ := h
  refine ⟨⟨?_, ?_, ?_⟩, fun t ht => ?_, fun p hp => ?_, fun n hn => ?_⟩
  · rw [e 88 2 (by omega) (by omega) (by omega)]
    exact h1
  · rw [e 88 0 (by omega) (by omega) (by omega)]
    exact h2
  · rw [e 86 26 (by omega) (by omega) (by omega)]
    exact h3
  · obtain ⟨b, b1, b2, b3, b4, b5⟩ := h4 t ht
    refine ⟨b, b1, ?_, ?_, ?_, ?_⟩
    · rw [e 101 t (by omega) (by omega) (by omega)]
      exact b2
    · rw [e 92 b (by omega) (by omega) (by omega)]
      exact b3
    · rw [e 93 b (by omega) (by omega) (by omega)]
      exact b4
    · rw [e 95 b (by omega) (by omega) (by omega)]
      exact b5
  · rw [e 90 p (by omega) (by omega) (by omega)]
    exact h5 p hp
  · rw [e 96 n (by omega) (by omega) (by omega), e 97 n (by omega) (by omega) (by omega), e 99 n (by omega) (by omega) (by omega), e 103 n (by omega) (by omega) (by omega), e 100 n (by omega) (by omega) (by omega)]
    exact h6 n hn
/-- the places are those of x -/
def zpl (w : zW) (I : Nat → Nat → Int32) (x : Nat) : Prop := ∀ n, n < zN w → (I 114 n).toInt = zd x n
theorem z7_b : ∀ k, k < 4 → 7 ^ k ≤ 343 := by decide
theorem zI_lt {w : zW} (k4 : zN w ≤ 4) {x : Nat} (h : zI w x) : x < 7 ^ zN w := by
  obtain ⟨h1, h2⟩ := h
  have g0 := h2 0 (by omega)
  have g1 := h2 1 (by omega)
  have g2 := h2 2 (by omega)
  have g3 := h2 3 (by omega)
  rw [zd_0] at g0
  rw [zd_1] at g1
  rw [zd_2] at g2
  rw [zd_3] at g3
  have e : zN w = 0 ∨ zN w = 1 ∨ zN w = 2 ∨ zN w = 3 ∨ zN w = 4 := by omega
  rcases e with e | e | e | e | e
  · rw [e]
    show x < 1
    omega
  · rw [e]
    show x < 7
    omega
  · rw [e]
    show x < 49
    omega
  · rw [e]
    show x < 343
    omega
  · rw [e]
    show x < 2401
    omega
theorem zI_of {w : zW} (k4 : zN w ≤ 4) {x : Nat} (h : x < 7 ^ zN w) : zI w x := by
  have e : zN w = 0 ∨ zN w = 1 ∨ zN w = 2 ∨ zN w = 3 ∨ zN w = 4 := by omega
  have fin : ∀ n, n < 4 → (n = 0 ∨ n = 1 ∨ n = 2 ∨ n = 3) := fun n hn => by omega
  rcases e with e | e | e | e | e
  · rw [e] at h
    have h' : x < 1 := h
    refine ⟨by omega, fun n hn hm => ?_⟩
    rcases fin n hn with rfl | rfl | rfl | rfl
    · rw [zd_0]; omega
    · rw [zd_1]; omega
    · rw [zd_2]; omega
    · rw [zd_3]; omega
  · rw [e] at h
    have h' : x < 7 := h
    refine ⟨by omega, fun n hn hm => ?_⟩
    rcases fin n hn with rfl | rfl | rfl | rfl
    · omega
    · rw [zd_1]; omega
    · rw [zd_2]; omega
    · rw [zd_3]; omega
  · rw [e] at h
    have h' : x < 49 := h
    refine ⟨by omega, fun n hn hm => ?_⟩
    rcases fin n hn with rfl | rfl | rfl | rfl
    · omega
    · omega
    · rw [zd_2]; omega
    · rw [zd_3]; omega
  · rw [e] at h
    have h' : x < 343 := h
    refine ⟨by omega, fun n hn hm => ?_⟩
    rcases fin n hn with rfl | rfl | rfl | rfl
    · omega
    · omega
    · omega
    · rw [zd_3]; omega
  · rw [e] at h
    have h' : x < 2401 := h
    exact ⟨h', fun n hn hm => by omega⟩
theorem zst_run {L : Nat} {xs : Nat → Int32} {d : Nat} {I : Nat → Nat → Int32} {J : Nat → Nat → Int64} {R : Nat → Nat → Nat} (hG : aGd R) {w : zW} (k4 : zN w ≤ 4) (hr : zRf w I) : ∃ r : Int32, xEv L xs d 200 0 [.ref 86, xmk, xmk] [] (124, I, J, R) (some (.int r)) (124, I, J, R) ∧ r.toInt = ((7 ^ zN w : Nat) : Int) := by
  have h88 := hr.1.1
  have e7 : (7 : Int32).toInt = 7 := by decide
  have lp : ∀ (f k : Nat) (n i : Int32), k + f = zN w → i.toInt = k → n.toInt = ((7 ^ k : Nat) : Int) → ∃ r : Int32, xEv L xs d 200 4 [.ref 86, .int n, .int i] [] (124, I, J, R) (some (.int r)) (124, I, J, R) ∧ r.toInt = ((7 ^ zN w : Nat) : Int) := by
    intro f
    induction f with
    | zero =>
      intro k n i hk ei en
      have e : k = zN w := by omega
      rw [e] at en
      exact ⟨n, zst_e hG (by omega), en⟩
    | succ f ih =>
      intro k n i hk ei en
      have b := z7_b k (by omega)
      have ei' : (i + 1).toInt = (k + 1 : Nat) := by rw [i_add1 (by omega)]; omega
      have en' : (n * 7).toInt = ((7 ^ (k + 1) : Nat) : Int) := by
        rw [Nat.pow_succ]
        obtain ⟨q, hq⟩ : ∃ q, 7 ^ k = q := ⟨_, rfl⟩
        rw [hq] at en b ⊢
        rw [i_mul (by rw [e7]; omega) (by rw [e7]; omega), e7]
        omega
      obtain ⟨r, z1, z2⟩ := ih (k + 1) (n * 7) (i + 1) (by omega) ei' en'
      exact ⟨r, zst_y hG (by omega) z1, z2⟩
  obtain ⟨r, z1, z2⟩ := lp (zN w) 0 1 0 (by omega) (by decide) (by decide)
  exact ⟨r, zst_s hG z1, z2⟩
theorem zpo_run {L : Nat} {xs : Nat → Int32} {d : Nat} {I : Nat → Nat → Int32} {J : Nat → Nat → Int64} {R : Nat → Nat → Nat} (hG : aGd R) {w : zW} (k4 : zN w ≤ 4) (hr : zRf w I) {x : Int32} {xN : Nat} (hx : x.toInt = xN) : ∃ I' : Nat → Nat → Int32, xEv L xs d 201 0 [.ref 86, .int x, xmk, xmk] [] (124, I, J, R) none (124, I', J, R) ∧ zpl w I' xN ∧ ∀ c k, c ≠ 114 → I' c k = I c k := by
  have h88 := hr.1.1
  have e7 : (7 : Int32).toInt = 7 := by decide
  have lp : ∀ (f k : Nat) (a i : Int32) (I1 : Nat → Nat → Int32), k + f = zN w → i.toInt = k → a.toInt = ((xN / 7 ^ k : Nat) : Int) → (∀ m, m < k → (I1 114 m).toInt = zd xN m) → (∀ c k, c ≠ 114 → I1 c k = I c k) → ∃ I' : Nat → Nat → Int32, xEv L xs d 201 4 [.ref 86, .int x, .int a, .int i] [] (124, I1, J, R) none (124, I', J, R) ∧ zpl w I' xN ∧ ∀ c k, c ≠ 114 → I' c k = I c k := by
    intro f
    induction f with
    | zero =>
      intro k a i I1 hk ei ea h1 h2
      have e : k = zN w := by omega
      rw [e] at h1
      exact ⟨I1, zpo_e hG (by rw [h2 88 2 (by omega)]; omega), h1, h2⟩
    | succ f ih =>
      intro k a i I1 hk ei ea h1 h2
      have ei' : (i + 1).toInt = (k + 1 : Nat) := by rw [i_add1 (by omega)]; omega
      have ec := clamp_s (i := i) (by omega)
      have ek : i.toNatClampNeg = k := by omega
      have a0 : 0 ≤ a.toInt := by
        rw [ea]
        obtain ⟨q, hq⟩ : ∃ q, xN / 7 ^ k = q := ⟨_, rfl⟩
        rw [hq]
        omega
      have d7 : (a / 7).toInt = a.toInt / 7 := by rw [i_div a0 (by rw [e7]; omega), e7]
      have r7 : (a - a / 7 * 7).toInt = a.toInt % 7 := by rw [i_rem a0 (by rw [e7]; omega), e7]
      have ea' : (a / 7).toInt = ((xN / 7 ^ (k + 1) : Nat) : Int) := by
        rw [Nat.pow_succ, ← Nat.div_div_eq_div_mul, d7, ea]
        omega
      have er : (a - a / 7 * 7).toInt = zd xN k := by
        rw [r7, ea]
        show _ = ((xN / 7 ^ k % 7 : Nat) : Int)
        omega
      obtain ⟨I', z1, z2, z3⟩ := ih (k + 1) (a / 7) (i + 1) (uI I1 114 k (a - a / 7 * 7)) (by omega) ei' ea' (fun m hm => by
        by_cases g : m = k
        · rw [g, uI_s]
          exact er
        · rw [uI_n _ _ (by omega)]
          exact h1 m (by omega)) (fun c q hc => by rw [uI_c _ _ _ hc]; exact h2 c q hc)
      exact ⟨I', zpo_y hG (by rw [h2 88 2 (by omega)]; omega) (by omega) (by omega) (by rw [ek]; exact z1), z2, z3⟩
  obtain ⟨I', z1, z2⟩ := lp (zN w) 0 x 0 I (by omega) (by decide) (by rw [hx, show xN / 7 ^ 0 = xN from Nat.div_one _]) (fun m hm => absurd hm (by omega)) (fun _ _ _ => rfl)
  exact ⟨I', zpo_s hG z1, z2⟩
theorem zso_run {L : Nat} {xs : Nat → Int32} {d : Nat} {I : Nat → Nat → Int32} {J : Nat → Nat → Int64} {R : Nat → Nat → Nat} (hG : aGd R) {w : zW} (k4 : zN w ≤ 4) (hr : zRf w I) {x : Nat} (hx : zI w x) (hp : zpl w I x) : ∃ r : Int32, xEv L xs d 203 0 [.ref 86, xmk, xmk] [] (124, I, J, R) (some (.int r)) (124, I, J, R) ∧ r.toInt = x := by
  have h88 := hr.1.1
  have hl := hx.1
  have e7 : (7 : Int32).toInt = 7 := by decide
  have e1 : (1 : Int32).toInt = 1 := by decide
  have em : (-1 : Int32).toInt = -1 := by decide
  have lp : ∀ (k : Nat) (a i : Int32), k ≤ zN w → i.toInt = (k : Int) - 1 → a.toInt = ((x / 7 ^ k : Nat) : Int) → ∃ r : Int32, xEv L xs d 203 11 [.ref 86, .int a, .int i] [] (124, I, J, R) (some (.int r)) (124, I, J, R) ∧ r.toInt = x := by
    intro k
    induction k with
    | zero =>
      intro a i hk ei ea
      rw [show x / 7 ^ 0 = x from Nat.div_one _] at ea
      exact ⟨a, zso_e hG (by omega), ea⟩
    | succ k ih =>
      intro a i hk ei ea
      have ec := clamp_s (i := i) (by omega)
      have ek : i.toNatClampNeg = k := by omega
      obtain ⟨dx, hdx⟩ : ∃ dx, i + (-1) = dx := ⟨_, rfl⟩
      have ed : dx.toInt = (k : Int) - 1 := by
        rw [← hdx, i_add (by rw [em]; omega) (by rw [em]; omega), em]
        omega
      have hpk := hp k (by omega)
      have ea' : ((7 * a) + (I 114 k)).toInt = ((x / 7 ^ k : Nat) : Int) := by
        rw [Nat.pow_succ, ← Nat.div_div_eq_div_mul] at ea
        have z : zd x k = x / 7 ^ k % 7 := rfl
        have le : x / 7 ^ k ≤ x := Nat.div_le_self _ _
        obtain ⟨q, hq⟩ : ∃ q, x / 7 ^ k = q := ⟨_, rfl⟩
        rw [hq] at ea z le ⊢
        have m : ((7 : Int32) * a).toInt = 7 * a.toInt := by rw [i_mul (by rw [e7]; omega) (by rw [e7]; omega), e7]
        rw [i_add (by omega) (by omega), m]
        omega
      obtain ⟨r, z1, z2⟩ := ih ((7 * a) + (I 114 k)) dx (by omega) ed ea'
      exact ⟨r, zso_y hG (by omega) (by omega) (by omega) hdx (by rw [ek]; exact z1), z2⟩
  have e0 : x / 7 ^ zN w = 0 := Nat.div_eq_of_lt (zI_lt k4 hx)
  have ei : (I 88 2 - 1).toInt = (zN w : Int) - 1 := by rw [i_sub (by rw [e1]; omega) (by rw [e1]; omega), e1, h88]
  obtain ⟨r, z1, z2⟩ := lp (zN w) 0 (I 88 2 - 1) (Nat.le_refl _) ei (by rw [e0]; rfl)
  exact ⟨r, zso_s hG z1, z2⟩
def zqs (w : zW) (x p : Nat) : Nat → Nat
  | 0 => 0
  | n + 1 => zqs w x p n + zq w x p n
theorem zqs_s (w : zW) (x p n : Nat) : zqs w x p (n + 1) = zqs w x p n + zq w x p n := rfl
theorem zqs_b (w : zW) (x p : Nat) : ∀ n, zqs w x p n ≤ n
  | 0 => Nat.le_refl _
  | n + 1 => by
    have h := zqs_b w x p n
    have e := zqs_s w x p n
    have b : zq w x p n ≤ 1 := by
      unfold zq
      split <;> omega
    omega
theorem zqs_h {w : zW} (k4 : zN w ≤ 4) (x p : Nat) : zqs w x p (zN w) = zh w x p := by
  have q : ∀ n, zN w ≤ n → zq w x p n = 0 := fun n hn => zq_3 (by omega)
  have z0 : zqs w x p 0 = 0 := rfl
  have z1 : zqs w x p 1 = zqs w x p 0 + zq w x p 0 := rfl
  have z2 : zqs w x p 2 = zqs w x p 1 + zq w x p 1 := rfl
  have z3 : zqs w x p 3 = zqs w x p 2 + zq w x p 2 := rfl
  have z4 : zqs w x p 4 = zqs w x p 3 + zq w x p 3 := rfl
  unfold zh
  have e : zN w = 0 ∨ zN w = 1 ∨ zN w = 2 ∨ zN w = 3 ∨ zN w = 4 := by omega
  rcases e with e | e | e | e | e
  · rw [q 0 (by omega), q 1 (by omega), q 2 (by omega), q 3 (by omega), e]
    rfl
  · rw [q 1 (by omega), q 2 (by omega), q 3 (by omega), e]
    omega
  · rw [q 2 (by omega), q 3 (by omega), e]
    omega
  · rw [q 3 (by omega), e]
    omega
  · rw [e]
    omega
theorem zha_run {L : Nat} {xs : Nat → Int32} {d : Nat} {I : Nat → Nat → Int32} {J : Nat → Nat → Int64} {R : Nat → Nat → Nat} (hG : aGd R) {w : zW} (k4 : zN w ≤ 4) (hr : zRf w I) {x : Nat} (hp : zpl w I x) {q : Int32} {pN : Nat} (hq : q.toInt = pN) : ∃ r : Int32, xEv L xs d 205 0 [.ref 86, .int q, xmk, xmk] [] (124, I, J, R) (some (.int r)) (124, I, J, R) ∧ r.toInt = zh w x pN := by
  have h88 := hr.1.1
  have lp : ∀ (f k : Nat) (a i : Int32), k + f = zN w → i.toInt = k → a.toInt = zqs w x pN k → ∃ r : Int32, xEv L xs d 205 4 [.ref 86, .int q, .int a, .int i] [] (124, I, J, R) (some (.int r)) (124, I, J, R) ∧ r.toInt = zh w x pN := by
    intro f
    induction f with
    | zero =>
      intro k a i hk ei ea
      have e : k = zN w := by omega
      rw [e, zqs_h k4] at ea
      exact ⟨a, zha_e hG (by omega), ea⟩
    | succ f ih =>
      intro k a i hk ei ea
      have ei' : (i + 1).toInt = (k + 1 : Nat) := by rw [i_add1 (by omega)]; omega
      have ec := clamp_s (i := i) (by omega)
      have ek : i.toNatClampNeg = k := by omega
      have b := zqs_b w x pN k
      have s := zqs_s w x pN k
      have hpk := hp k (by omega)
      by_cases g : zd x k = pN
      · rw [zq_1 (by omega) g] at s
        obtain ⟨r, z1, z2⟩ := ih (k + 1) (a + 1) (i + 1) (by omega) ei' (by rw [i_add1 (by omega), s, ea]; omega)
        exact ⟨r, zha_1 hG (by omega) (by omega) (by omega) (by rw [ek]; omega) z1, z2⟩
      · rw [zq_2 g] at s
        obtain ⟨r, z1, z2⟩ := ih (k + 1) a (i + 1) (by omega) ei' (by rw [s, ea]; rfl)
        exact ⟨r, zha_0 hG (by omega) (by omega) (by omega) (by rw [ek]; omega) (by rw [Int32.add_zero]; exact z1), z2⟩
  obtain ⟨r, z1, z2⟩ := lp (zN w) 0 0 0 (by omega) (by decide) (by show (0 : Int32).toInt = ((0 : Nat) : Int); decide)
  exact ⟨r, zha_s hG z1, z2⟩
def zis (w : zW) (b x : Nat) : Nat → Int
  | 0 => 0
  | n + 1 => zis w b x n + zi1 w b x n
theorem zis_s (w : zW) (b x n : Nat) : zis w b x (n + 1) = zis w b x n + zi1 w b x n := rfl
theorem zis_b {w : zW} (hK : zK w) (b x : Nat) : ∀ n, 0 ≤ zis w b x n ∧ zis w b x n ≤ 99 * n
  | 0 => ⟨Int.le_refl _, by show (0 : Int) ≤ _; omega⟩
  | n + 1 => by
    have h := zis_b hK b x n
    have e := zis_s w b x n
    have c := zi1_b hK b x n
    omega
theorem zis_h {w : zW} (k4 : zN w ≤ 4) (b x : Nat) : zis w b x (zN w) = zi w b x := by
  have q : ∀ n, zN w ≤ n → zi1 w b x n = 0 := fun n hn => if_neg (fun h => by omega)
  have z0 : zis w b x 0 = 0 := rfl
  have z1 : zis w b x 1 = zis w b x 0 + zi1 w b x 0 := rfl
  have z2 : zis w b x 2 = zis w b x 1 + zi1 w b x 1 := rfl
  have z3 : zis w b x 3 = zis w b x 2 + zi1 w b x 2 := rfl
  have z4 : zis w b x 4 = zis w b x 3 + zi1 w b x 3 := rfl
  unfold zi
  have e : zN w = 0 ∨ zN w = 1 ∨ zN w = 2 ∨ zN w = 3 ∨ zN w = 4 := by omega
  rcases e with e | e | e | e | e
  · rw [q 0 (by omega), q 1 (by omega), q 2 (by omega), q 3 (by omega), e]
    rfl
  · rw [q 1 (by omega), q 2 (by omega), q 3 (by omega), e]
    omega
  · rw [q 2 (by omega), q 3 (by omega), e]
    omega
  · rw [q 3 (by omega), e]
    omega
  · rw [e]
    omega
theorem zin_run {L : Nat} {xs : Nat → Int32} {d : Nat} {I : Nat → Nat → Int32} {J : Nat → Nat → Int64} {R : Nat → Nat → Nat} (hG : aGd R) {w : zW} (hK : zK w) (hr : zRf w I) {x : Nat} (hp : zpl w I x) {b : Int32} {bN : Nat} (hb : b.toInt = bN) : ∃ r : Int32, xEv L xs d 204 0 [.ref 86, .int b, xmk, xmk] [] (124, I, J, R) (some (.int r)) (124, I, J, R) ∧ r.toInt = zi w bN x := by
  have h88 := hr.1.1
  have k4 := hK.1
  have lp : ∀ (f k : Nat) (a i : Int32), k + f = zN w → i.toInt = k → a.toInt = zis w bN x k → ∃ r : Int32, xEv L xs d 204 4 [.ref 86, .int b, .int a, .int i] [] (124, I, J, R) (some (.int r)) (124, I, J, R) ∧ r.toInt = zi w bN x := by
    intro f
    induction f with
    | zero =>
      intro k a i hk ei ea
      have e : k = zN w := by omega
      rw [e, zis_h k4] at ea
      exact ⟨a, zin_e hG (by omega), ea⟩
    | succ f ih =>
      intro k a i hk ei ea
      have ei' : (i + 1).toInt = (k + 1 : Nat) := by rw [i_add1 (by omega)]; omega
      have ec := clamp_s (i := i) (by omega)
      have ek : i.toNatClampNeg = k := by omega
      have bb := zis_b hK bN x k
      have s := zis_s w bN x k
      have hpk := hp k (by omega)
      obtain ⟨-, q97, q99, q103, -⟩ := hr.2.2.2 k (by omega)
      by_cases g1 : zL w k = bN
      · by_cases g2 : zd x k = zO w k
        · have e1 : zi1 w bN x k = zX w k := if_pos ⟨by omega, g1, g2⟩
          have xb := hK.2.2.2.2 k (by omega)
          rw [e1] at s
          have ea' : (a + I 99 k).toInt = zis w bN x (k + 1) := by rw [i_add (by omega) (by omega), s, ea, q99]
          obtain ⟨r, z1, z2⟩ := ih (k + 1) (a + I 99 k) (i + 1) (by omega) ei' ea'
          exact ⟨r, zin_2 hG (by omega) (by omega) (by omega) (by rw [ek]; omega) (by omega) (by omega) (by omega) (by omega) (by rw [ek]; omega) (by omega) (by omega) (by rw [ek]; exact z1), z2⟩
        · have e1 : zi1 w bN x k = 0 := if_neg (fun h => g2 h.2.2)
          rw [e1] at s
          obtain ⟨r, z1, z2⟩ := ih (k + 1) a (i + 1) (by omega) ei' (by rw [s, ea, Int.add_zero])
          exact ⟨r, zin_1 hG (by omega) (by omega) (by omega) (by rw [ek]; omega) (by omega) (by omega) (by omega) (by omega) (by rw [ek]; omega) (by rw [Int32.add_zero]; exact z1), z2⟩
      · have e1 : zi1 w bN x k = 0 := if_neg (fun h => g1 h.2.1)
        rw [e1] at s
        obtain ⟨r, z1, z2⟩ := ih (k + 1) a (i + 1) (by omega) ei' (by rw [s, ea, Int.add_zero])
        exact ⟨r, zin_0 hG (by omega) (by omega) (by omega) (by rw [ek]; omega) (by rw [Int32.add_zero]; exact z1), z2⟩
  obtain ⟨r, z1, z2⟩ := lp (zN w) 0 0 0 (by omega) (by decide) (by show (0 : Int32).toInt = (0 : Int); decide)
  exact ⟨r, zin_s hG z1, z2⟩
theorem zE_I {w : zW} (hK : zK w) : zI w (zE w) := ⟨zE_lt hK, fun n hn hm => by rw [zE_d hK hn, if_neg (by omega)]⟩
theorem zfs_run {L : Nat} {xs : Nat → Int32} {d : Nat} {I : Nat → Nat → Int32} {J : Nat → Nat → Int64} {R : Nat → Nat → Nat} (hG : aGd R) {w : zW} (hK : zK w) (hr : zRf w I) : ∃ (r : Int32) (I' : Nat → Nat → Int32), xEv L xs (d + 1) 206 0 [.ref 86, xmk] [] (124, I, J, R) (some (.int r)) (124, I', J, R) ∧ r.toInt = zE w ∧ zpl w I' (zE w) ∧ ∀ c k, c ≠ 114 → I' c k = I c k := by
  have h88 := hr.1.1
  have k4 := hK.1
  have lp : ∀ (f k : Nat) (i : Int32) (I1 : Nat → Nat → Int32), k + f = zN w → i.toInt = k → (∀ m, m < k → (I1 114 m).toInt = zd (zE w) m) → (∀ c k, c ≠ 114 → I1 c k = I c k) → ∃ (r : Int32) (I' : Nat → Nat → Int32), xEv L xs (d + 1) 206 2 [.ref 86, .int i] [] (124, I1, J, R) (some (.int r)) (124, I', J, R) ∧ r.toInt = zE w ∧ zpl w I' (zE w) ∧ ∀ c k, c ≠ 114 → I' c k = I c k := by
    intro f
    induction f with
    | zero =>
      intro k i I1 hk ei h1 h2
      have e : k = zN w := by omega
      rw [e] at h1
      obtain ⟨r, z1, z2⟩ := zso_run (L := L) (xs := xs) (d := d) (I := I1) (J := J) hG k4 (zRf_e hr (fun c q _ g2 _ => h2 c q (by omega))) (zE_I hK) h1
      exact ⟨r, I1, zfs_e hG (by rw [h2 88 2 (by omega)]; omega) z1, z2, h1, h2⟩
    | succ f ih =>
      intro k i I1 hk ei h1 h2
      have ei' : (i + 1).toInt = (k + 1 : Nat) := by rw [i_add1 (by omega)]; omega
      have ec := clamp_s (i := i) (by omega)
      have ek : i.toNatClampNeg = k := by omega
      obtain ⟨q96, -⟩ := hr.2.2.2 k (by omega)
      obtain ⟨r, I', z1, z2⟩ := ih (k + 1) (i + 1) (uI I1 114 k (I1 96 k)) (by omega) ei' (fun m hm => by
        by_cases g : m = k
        · rw [g, uI_s, h2 96 k (by omega), zE_d hK (by omega), if_pos (by omega)]
          exact q96
        · rw [uI_n _ _ (by omega)]
          exact h1 m (by omega)) (fun c q hc => by rw [uI_c _ _ _ hc]; exact h2 c q hc)
      exact ⟨r, I', zfs_y hG (by rw [h2 88 2 (by omega)]; omega) (by omega) (by omega) (by omega) (by omega) (by rw [ek]; exact z1), z2⟩
  obtain ⟨r, I', z1, z2⟩ := lp (zN w) 0 0 I (by omega) (by decide) (fun m hm => absurd hm (by omega)) (fun _ _ _ => rfl)
  exact ⟨r, I', zfs_s hG z1, z2⟩
theorem z1_tb {x k : Int32} {n : Nat} (hk : k.toInt = n) (hn : n < 31) : (tb x n = true ∧ ((x >>> (k &&& 31)) &&& 1).toInt = 1) ∨ (tb x n = false ∧ ((x >>> (k &&& 31)) &&& 1).toInt ≠ 1) := by
  rw [tb_shr hk hn]
  cases tb x n
  · exact Or.inr ⟨rfl, by decide⟩
  · exact Or.inl ⟨rfl, by decide⟩
theorem zaw_run {L : Nat} {xs : Nat → Int32} {d : Nat} {I : Nat → Nat → Int32} {J : Nat → Nat → Int64} {R : Nat → Nat → Nat} (hG : aGd R) {w : zW} (k4 : zN w ≤ 4) (hr : zRf w I) {x u q : Int32} {xN pN : Nat} (hx : x.toInt = xN) (hq : q.toInt = pN) : ∃ (r : Int32) (I' : Nat → Nat → Int32), xEv L xs (d + 1) 209 0 [.ref 86, .int x, .int u, .int q, xmk] [] (124, I, J, R) (some (.int r)) (124, I', J, R) ∧ (∀ c k, c ≠ 114 → I' c k = I c k) ∧ ((r = 1 ∧ ∀ n, n < zN w → tb u n = true → zd xN n = pN) ∨ (r = 0 ∧ ¬ ∀ n, n < zN w → tb u n = true → zd xN n = pN)) := by
  obtain ⟨I1, y1, y2, y3⟩ := zpo_run (L := L) (xs := xs) (d := d) (J := J) hG k4 hr hx
  have h88 : (I1 88 2).toInt = zN w := by rw [y3 88 2 (by omega)]; exact hr.1.1
  have lp : ∀ (f k : Nat) (i : Int32), k + f = zN w → i.toInt = k → (∀ n, n < k → tb u n = true → zd xN n = pN) → ∃ (r : Int32), xEv L xs (d + 1) 209 8 [.ref 86, .int x, .int u, .int q, .int i] [] (124, I1, J, R) (some (.int r)) (124, I1, J, R) ∧ ((r = 1 ∧ ∀ n, n < zN w → tb u n = true → zd xN n = pN) ∨ (r = 0 ∧ ¬ ∀ n, n < zN w → tb u n = true → zd xN n = pN)) := by
    intro f
    induction f with
    | zero =>
      intro k i hk ei h
      have e : k = zN w := by omega
      rw [e] at h
      exact ⟨1, zaw_e hG (by omega), Or.inl ⟨rfl, h⟩⟩
    | succ f ih =>
      intro k i hk ei h
      have ei' : (i + 1).toInt = (k + 1 : Nat) := by rw [i_add1 (by omega)]; omega
      have ec := clamp_s (i := i) (by omega)
      have ek : i.toNatClampNeg = k := by omega
      have hpk := y2 k (by omega)
      rcases z1_tb (x := u) ei (by omega) with ⟨g1, g2⟩ | ⟨g1, g2⟩
      · by_cases g : zd xN k = pN
        · obtain ⟨r, z1, z2⟩ := ih (k + 1) (i + 1) (by omega) ei' (fun n hn hb => by
            by_cases e : n = k
            · rw [e]; exact g
            · exact h n (by omega) hb)
          exact ⟨r, zaw_1 hG (by omega) g2 (by omega) (by omega) (by rw [ek]; omega) z1, z2⟩
        · exact ⟨0, zaw_2 hG (by omega) g2 (by omega) (by omega) (by rw [ek]; omega), Or.inr ⟨rfl, fun hh => g (hh k (by omega) g1)⟩⟩
      · obtain ⟨r, z1, z2⟩ := ih (k + 1) (i + 1) (by omega) ei' (fun n hn hb => by
          by_cases e : n = k
          · rw [e, g1] at hb
            cases hb
          · exact h n (by omega) hb)
        exact ⟨r, zaw_0 hG (by omega) g2 z1, z2⟩
  obtain ⟨r, z1, z2⟩ := lp (zN w) 0 0 (by omega) (by decide) (fun n hn => absurd hn (by omega))
  exact ⟨r, I1, zaw_s hG y1 z1, y3, z2⟩
/-- who is met -/
theorem zmb_run {L : Nat} {xs : Nat → Int32} {d : Nat} {I : Nat → Nat → Int32} {J : Nat → Nat → Int64} {R : Nat → Nat → Nat} (hG : aGd R) {w : zW} (hr : zRf w I) {t q : Int32} {tN pN : Nat} (k64 : zT w ≤ 64) (ht : t.toInt = tN) (tl : tN < zT w) (hq : q.toInt = pN) : ∃ r : Int32, xEv L xs (d + 1) 176 0 [.ref 86, .int q, .int t] [] (124, I, J, R) (some (.int r)) (124, I, J, R) ∧ (((pN = zA w tN ∨ pN = zB w tN) ∧ r.toInt = zw w tN pN) ∨ (pN ≠ zA w tN ∧ pN ≠ zB w tN ∧ r.toInt = -1)) := by
  obtain ⟨b, b1, b2, b3, b4, -⟩ := hr.2.1 tN tl
  have ec := clamp_s (i := t) (by omega)
  have ek : t.toNatClampNeg = tN := by omega
  have ec2 := clamp_s (i := I 101 tN) (by omega)
  have ek2 : (I 101 tN).toNatClampNeg = b := by omega
  have y1 := oA (L := L) (xs := xs) (d := d) (I := I) (J := J) (t := t) hG (by omega) (by omega) (by rw [ek]; omega) (by rw [ek]; omega)
  have y2 := tA (L := L) (xs := xs) (d := d) (I := I) (J := J) (t := t) hG (by omega) (by omega) (by rw [ek]; omega) (by rw [ek]; omega)
  rw [ek, ek2] at y1 y2
  by_cases g1 : pN = zA w tN
  · exact ⟨I 93 b, zmb_0 hG y1 (by omega) y2, Or.inl ⟨Or.inl g1, by rw [g1, zw_A]; exact b4⟩⟩
  · by_cases g2 : pN = zB w tN
    · exact ⟨I 92 b, zmb_1 hG y1 (by omega) y2 (by omega) y1, Or.inl ⟨Or.inr g2, by unfold zw; rw [if_neg g1, if_pos g2]; exact b3⟩⟩
    · exact ⟨-1, zmb_2 hG y1 (by omega) y2 (by omega), Or.inr ⟨g1, g2, by decide⟩⟩
theorem zsu_run {L : Nat} {xs : Nat → Int32} {d : Nat} {I : Nat → Nat → Int32} {J : Nat → Nat → Int64} {R : Nat → Nat → Nat} (hG : aGd R) {w : zW} (hr : zRf w I) {t : Int32} {tN : Nat} (k64 : zT w ≤ 64) (ht : t.toInt = tN) (tl : tN < zT w) : (zU w tN ∧ xEv L xs d 186 0 [.ref 86, .int t] [] (124, I, J, R) (some (.int 1)) (124, I, J, R)) ∨ (¬ zU w tN ∧ xEv L xs d 186 0 [.ref 86, .int t] [] (124, I, J, R) (some (.int 0)) (124, I, J, R)) := by
  obtain ⟨b, b1, b2, -, -, b5⟩ := hr.2.1 tN tl
  have ec := clamp_s (i := t) (by omega)
  have ek : t.toNatClampNeg = tN := by omega
  have ec2 := clamp_s (i := I 101 tN) (by omega)
  have ek2 : (I 101 tN).toNatClampNeg = b := by omega
  by_cases g : (I 95 b).toInt = 10
  · exact Or.inl ⟨b5.mp g, iS_1 hG (by omega) (by omega) (by rw [ek]; omega) (by rw [ek]; omega) (by rw [ek, ek2]; exact g)⟩
  · exact Or.inr ⟨fun h => g (b5.mpr h), iS_0 hG (by omega) (by omega) (by rw [ek]; omega) (by rw [ek]; omega) (by rw [ek, ek2]; exact g)⟩
theorem zib_run {L : Nat} {xs : Nat → Int32} {d : Nat} {I : Nat → Nat → Int32} {J : Nat → Nat → Int64} {R : Nat → Nat → Nat} (hG : aGd R) {w : zW} (k4 : zN w ≤ 4) (hr : zRf w I) {n q : Int32} {nN pN : Nat} (hn : n.toInt = nN) (nl : nN < zN w) (hq : q.toInt = pN) (p7 : pN < 7) : (zR w nN pN = true ∧ xEv L xs d 179 0 [.ref 86, .int n, .int q] [] (124, I, J, R) (some (.int 1)) (124, I, J, R)) ∨ (zR w nN pN = false ∧ xEv L xs d 179 0 [.ref 86, .int n, .int q] [] (124, I, J, R) (some (.int 0)) (124, I, J, R)) := by
  have ec := clamp_s (i := n) (by omega)
  have ek : n.toNatClampNeg = nN := by omega
  have e := (hr.2.2.2 nN nl).2.2.2.2 pN p7
  rcases z1_tb (x := I 100 nN) hq (by omega) with ⟨g1, g2⟩ | ⟨g1, g2⟩
  · exact Or.inl ⟨by rw [← e]; exact g1, zib_1 hG (by omega) (by omega) (by rw [ek]; exact g2)⟩
  · exact Or.inr ⟨by rw [← e]; exact g1, zib_0 hG (by omega) (by omega) (by rw [ek]; exact g2)⟩
