/-- days are alike -/
def zD (w : zW) (nm : Nat) : Prop := (0 < zT w → 1 ≤ nm) ∧ ∀ t, t + nm < zT w → zA w (t + nm) = zA w t ∧ zB w (t + nm) = zB w t ∧ (zU w (t + nm) ↔ zU w t)
theorem zY_u {w : zW} {t x y : Nat} (hu : ¬ zU w t) (h : zY w t x y) : y = x := by
  rcases zv_s.mp h with e | ⟨u, -⟩
  · exact e
  · exact absurd u hu
theorem zQ_b {w : zW} (hK : zK w) {t : Nat} {W : Nat → Int} (h : zQ w t W) (y : Nat) (hy : y < 2401) : W y ≤ 396 * t := by
  obtain ⟨h1, h2⟩ := h y hy
  by_cases g : 0 ≤ W y
  · exact (zp_b hK t y _ (h1 g).1).2
  · omega
theorem zZ_b {w : zW} (hK : zK w) {t : Nat} {W : Nat → Int} (h : zZ w t W) (y : Nat) (hy : y < 2401) : W y ≤ 396 * t := by
  obtain ⟨h1, h2⟩ := h y hy
  by_cases g : 0 ≤ W y
  · obtain ⟨x, hx, -⟩ := (h1 g).1
    exact (zp_b hK t x _ hx).2
  · omega
theorem zQ_r {w : zW} {t : Nat} {W : Nat → Int} (h : zQ w t W) {y : Nat} (hy : y < 2401) : 0 ≤ W y ↔ zr w t y := by
  obtain ⟨h1, h2⟩ := h y hy
  constructor
  · intro g
    exact ⟨_, (h1 g).1⟩
  · rintro ⟨v, hv⟩
    exact Classical.byContradiction fun g => h2 (by omega) v hv
/-- nothing new by a time -/
theorem yW_c {w : zW} (hK : zK w) (h0 : zV w (zE w)) {t : Nat} (ht : t < zT w) {I : Nat → Nat → Int32} {W : Nat → Int} (h : yW w t I) (hQ : zQ w t W) (hC : zC w t W) : yW w (t + 1) I := by
  obtain ⟨a1, a2⟩ := h
  have back : ∀ y, zr w (t + 1) y → zr w t y := fun y hy => by
    obtain ⟨x, x1, x2⟩ := zr_s.mp hy
    have vx := zr_V hK h0 (by omega) x1
    have vy := zY_V hK ht vx x2
    have gx := (zQ_r hQ vx.1.1).mpr x1
    have := hC x y vx.1.1 gx x2
    exact (zQ_r hQ vy.1.1).mp (by omega)
  refine ⟨fun s y p hs hr hp => ?_, fun S p hS hp => ?_⟩
  · by_cases g : s = t + 1
    · rw [g] at hr
      have := a1 t y p (Nat.le_refl _) (back y hr) hp
      omega
    · exact a1 s y p (by omega) hr hp
  · rcases a2 S p hS hp with g | ⟨s, y, g1, g2⟩
    · exact Or.inl g
    · exact Or.inr ⟨s, y, by omega, g2⟩
/-- what a meeting brings -/
theorem yW_q {w : zW} (hK : zK w) (h0 : zV w (zE w)) {t : Nat} (ht : t < zT w) {I0 I : Nat → Nat → Int32} (h : yW w t I0) (hQ : zQ w t (fun y => (I0 58 y).toInt)) (hP : yQ w t I0 I) (lo : ∀ x y, x < 2401 → 0 ≤ (I0 58 x).toInt → zY w t x y → (I0 58 x).toInt ≤ (I 58 y).toInt) : yW w (t + 1) I := by
  obtain ⟨a1, a2⟩ := h
  obtain ⟨q1, -, q3, q4, -, -, q8, q9, q10⟩ := hP
  have fwd : ∀ y, y < 2401 → 0 ≤ (I 58 y).toInt → zr w (t + 1) y := fun y hy g => by
    obtain ⟨x, x1, x2, x3, -⟩ := q4 y hy g
    exact zr_s.mpr ⟨x, (zQ_r hQ x1).mp x2, x3⟩
  refine ⟨fun s y p hs hr hp => ?_, fun S p hS hp => ?_⟩
  · have sl := yS_lt w y p
    have dn := q8 (yS w y p * 7 + p) (by omega)
    by_cases g : s ≤ t
    · exact Int.le_trans dn (a1 s y p g hr hp)
    · have e : s = t + 1 := by omega
      rw [e] at hr ⊢
      obtain ⟨x, x1, x2⟩ := zr_s.mp hr
      have vx := zr_V hK h0 (by omega) x1
      have vy := zY_V hK ht vx x2
      have gx : 0 ≤ (I0 58 x).toInt := (zQ_r hQ vx.1.1).mpr x1
      have gy := lo x y vx.1.1 gx x2
      by_cases g2 : 0 ≤ (I0 58 y).toInt
      · have := a1 t y p (Nat.le_refl _) ((zQ_r hQ vy.1.1).mp g2) hp
        omega
      · have := q9 y vy.1.1 (by omega) (by omega) p hp
        omega
  · rcases q10 (S * 7 + p) with g | ⟨g1, y, p', g2, g3, g4, g5⟩
    · rw [g]
      rcases a2 S p hS hp with g' | ⟨s, y, b1, b2⟩
      · exact Or.inl g'
      · exact Or.inr ⟨s, y, by omega, b2⟩
    · have e : p' = p := by omega
      rw [e] at g5
      exact Or.inr ⟨t + 1, y, Nat.le_refl _, fwd y g2 g3, by omega, by omega⟩
theorem zQ_0 {w : zW} (hK : zK w) {W : Nat → Int} (h1 : ∀ y, y < 2401 → y ≠ zE w → W y = -1) (h2 : W (zE w) = 0) : zQ w 0 W := by
  intro y hy
  by_cases g : y = zE w
  · rw [g, h2]
    refine ⟨fun _ => ⟨⟨rfl, rfl⟩, ?_⟩, fun z => absurd z (by omega)⟩
    rintro v ⟨-, e⟩
    omega
  · rw [h1 y hy g]
    refine ⟨fun z => absurd z (by omega), ?_⟩
    rintro - v ⟨e, -⟩
    exact g e
theorem yBa_e {w : zW} {I I' : Nat → Nat → Int32} (h : yBa w I) (e : ∀ p, I' 62 p = I 62 p) : yBa w I' := fun p n hp hn => by
  rw [e]
  exact h p n hp hn
theorem zQ_e {w : zW} {t : Nat} {W W' : Nat → Int} (h : zQ w t W) (e : ∀ y, W' y = W y) : zQ w t W' := by
  rw [show W' = W from funext e]
  exact h
theorem ywo_run_3 {L : Nat} {xs : Nat → Int32} {d : Nat} {I : Nat → Nat → Int32} {J : Nat → Nat → Int64} {R : Nat → Nat → Nat} (hG : aGd R) {w : zW} {nm : Nat} (hK : zK w) (h0 : zV w (zE w)) (hH : ∀ p, p < zP w → zH w p ≤ 3) (hL : ∀ n, n < zN w → zL w n ≤ 64) (hD : zD w nm) (hC : zCl_3 w nm I) (hk0 : (I 57 8).toInt = 0) :
    ∃ I' : Nat → Nat → Int32, xEv L xs (d + 5) 84 0 [.ref 57, .ref 3, xmk, xmk, xmk] [] (124, I, J, R) none (124, I', J, R) ∧ I' 57 8 = 1 ∧ zx (zk w (zT w) (zE w)) (I' 57 6).toInt ∧ yW w (zT w) I' ∧ ∀ c k, c < 57 → I' c k = I c k := by
  have k4 := hK.1
  have p7 := hK.2.1
  have k64 := hK.2.2.1
  have at1 : ∀ (c n : Nat) (i : Int32) (iN : Nat) (Im : Nat → Nat → Int32), (∀ g : FieldType → Nat → Option xR, xarr (124, Im, J, R) c g = g .int n) → n < 2147483648 → i.toInt = iN → iN < n → ∀ d, xEv L xs d 39 0 [.ref c, .int i] [] (124, Im, J, R) (some (.int (Im c iN))) (124, Im, J, R) := by
    intro c n i iN Im ho hn ei hi d
    have ec := clamp_s (i := i) (by omega)
    have h4 := at_run (L := L) (xs := xs) (d := d) (h := (124, Im, J, R)) (c := c) (n := n) ho hn i
    rw [if_pos ⟨by omega, by omega⟩, show i.toNatClampNeg = iN by omega] at h4
    exact h4
  obtain ⟨Is, xs0, sT, sB, s58, sE, sW, sfr, s8⟩ := yst_run_3 (L := L) (xs := xs) (d := d) (I := uI I 57 8 1) (J := J) (R := R) hG hK h0 (zCl_f_3 hC (fun c k hc => uI_n _ _ (by omega)))
  have hCs : ∀ Im : Nat → Nat → Int32, (∀ c k, c < 57 → Im c k = I c k) → zCl_3 w nm Im := fun Im h => zCl_f_3 hC h
  have sfr' : ∀ c k, c < 57 → Is c k = I c k := fun c k hc => by rw [sfr c k hc, uI_n _ _ (by omega)]
  -- the greatest
  have lpG : ∀ (Ig : Nat → Nat → Int32) (q : Int32) (w4 : Value), yT w Ig → zQ w (zT w) (fun y => (Ig 58 y).toInt) → ∃ I' : Nat → Nat → Int32, xEv L xs (d + 5) 84 131 [.ref 57, .ref 3, .int q, .int 0, w4] [] (124, uI Ig 57 6 0, J, R) none (124, I', J, R) ∧ (∀ c k, ¬ (c = 57 ∧ k = 6) → I' c k = Ig c k) ∧ zx (zk w (zT w) (zE w)) (I' 57 6).toInt := by
    intro Ig q w4 hT hQ
    obtain ⟨kN, a1, a2, a3, a4, a5, a6⟩ := hT
    have kl : kN ≤ 2401 := yCt_b a2
    have lp : ∀ (j k : Nat) (i : Int32) (Im : Nat → Nat → Int32), k + j = kN → i.toInt = k → (∀ c k, ¬ (c = 57 ∧ k = 6) → Im c k = Ig c k) → 0 ≤ (Im 57 6).toInt → (∀ k', k' < k → ∀ x : Nat, (Ig 59 k').toInt = x → (Ig 58 x).toInt ≤ (Im 57 6).toInt) → ((Im 57 6).toInt = 0 ∨ ∃ x, x < 2401 ∧ 0 ≤ (Ig 58 x).toInt ∧ (Im 57 6).toInt = (Ig 58 x).toInt) → ∃ I' : Nat → Nat → Int32, xEv L xs (d + 5) 84 131 [.ref 57, .ref 3, .int q, .int i, w4] [] (124, Im, J, R) none (124, I', J, R) ∧ (∀ c k, ¬ (c = 57 ∧ k = 6) → I' c k = Ig c k) ∧ (∀ k', k' < kN → ∀ x : Nat, (Ig 59 k').toInt = x → (Ig 58 x).toInt ≤ (I' 57 6).toInt) ∧ ((I' 57 6).toInt = 0 ∨ ∃ x, x < 2401 ∧ 0 ≤ (Ig 58 x).toInt ∧ (I' 57 6).toInt = (Ig 58 x).toInt) := by
      intro j
      induction j with
      | zero =>
        intro k i Im hk ei hf h6 hm ha
        have e : k = kN := by omega
        rw [e] at hm
        exact ⟨Im, ywo_g_3 hG (by rw [hf 57 5 (by omega)]; omega), hf, hm, ha⟩
      | succ j ih =>
        intro k i Im hk ei hf h6 hm ha
        have ei' : (i + 1).toInt = (k + 1 : Nat) := by rw [i_add1 (by omega)]; omega
        obtain ⟨x, b1, b2, b3, b4⟩ := a3 k (by omega)
        have xl := b2.1.1
        have r59 := at1 59 2401 i k Im (fun _ => rfl) (by decide) ei (by omega) (d + 4)
        rw [hf 59 k (by omega)] at r59
        have r58 := at1 58 2401 (Ig 59 k) x Im (fun _ => rfl) (by decide) b1 xl (d + 4)
        rw [hf 58 x (by omega)] at r58
        obtain ⟨z, hz⟩ : ∃ z, (if Im 57 6 < Ig 58 x then Ig 58 x else Im 57 6) = z := ⟨_, rfl⟩
        have zz : (z = Ig 58 x ∧ (Im 57 6).toInt < (Ig 58 x).toInt) ∨ (z = Im 57 6 ∧ (Ig 58 x).toInt ≤ (Im 57 6).toInt) := by
          by_cases g : Im 57 6 < Ig 58 x
          · rw [if_pos g] at hz
            exact Or.inl ⟨hz.symm, Int32.lt_iff_toInt_lt.mp g⟩
          · rw [if_neg g] at hz
            exact Or.inr ⟨hz.symm, Classical.byContradiction fun n => g (Int32.lt_iff_toInt_lt.mpr (by omega))⟩
        have zge : (Im 57 6).toInt ≤ z.toInt ∧ (Ig 58 x).toInt ≤ z.toInt := by
          rcases zz with ⟨e, l⟩ | ⟨e, l⟩
          · rw [e]; omega
          · rw [e]; omega
        obtain ⟨I', z1, z2⟩ := ih (k + 1) (i + 1) (uI Im 57 6 z) (by omega) ei' (fun c q hc => by rw [uI_n _ _ hc]; exact hf c q hc) (by rw [uI_s]; omega) (fun k' hk' x' hx' => by
          rw [uI_s]
          by_cases g : k' = k
          · rw [g] at hx'
            have e : x' = x := by omega
            rw [e]
            exact zge.2
          · exact Int.le_trans (hm k' (by omega) x' hx') zge.1) (by
          rw [uI_s]
          rcases zz with ⟨e, l⟩ | ⟨e, l⟩
          · rw [e]; exact Or.inr ⟨x, xl, b4, rfl⟩
          · rw [e]; exact ha)
        exact ⟨I', ywo_h_3 hG (by rw [hf 57 5 (by omega)]; omega) r59 r58 (by rw [hz]; exact z1), z2⟩
    obtain ⟨I', z1, z2, z3, z4⟩ := lp kN 0 0 (uI Ig 57 6 0) (by omega) (by decide) (fun c k hc => uI_n _ _ hc) (by rw [uI_s]; decide) (fun k' hk' => absurd hk' (by omega)) (Or.inl (by rw [uI_s]; decide))
    have all : ∀ y, y < 2401 → 0 ≤ (Ig 58 y).toInt → (Ig 58 y).toInt ≤ (I' 57 6).toInt := fun y hy g => by
      obtain ⟨i, b1, b2⟩ := a4 y hy g
      exact z3 i b1 y b2
    have rE : ∀ t, zr w t (zE w) := fun t => by
      induction t with
      | zero => exact zr_0.mpr rfl
      | succ t ih => exact zr_m ih
    have lE := zE_lt hK
    have gE := (zQ_r hQ lE).mpr (rE (zT w))
    have tot : zx (fun v => ∃ y, zp w (zT w) y v) (I' 57 6).toInt := by
      constructor
      · rcases z4 with e | ⟨x, x1, x2, x3⟩
        · have b := all _ lE gE
          have e2 : (I' 57 6).toInt = (Ig 58 (zE w)).toInt := by
            have : (0 : Int) ≤ (Ig 58 (zE w)).toInt := gE
            omega
          rw [e2]
          exact ⟨zE w, ((hQ _ lE).1 gE).1⟩
        · rw [x3]
          exact ⟨x, ((hQ x x1).1 x2).1⟩
      · rintro u ⟨y, hy⟩
        have yl := (zp_V hK h0 _ (Nat.le_refl _) y u hy).1.1
        have gy := (zQ_r hQ yl).mpr ⟨u, hy⟩
        have b1 := ((hQ y yl).1 gy).2 u hy
        have b2 := all y yl gy
        have b1' : u ≤ (Ig 58 y).toInt := b1
        omega
    exact ⟨I', z1, z2, zx_c (fun u => zp_T u) tot⟩
  -- rewards
  have lpR : ∀ (tN : Nat) (t q : Int32) (Ib : Nat → Nat → Int32), t.toInt = tN → tN < zT w → yT w Ib → (∀ c k, c < 57 → Ib c k = I c k) → (∀ y, y < 2401 → (Ib 58 y).toInt ≤ 396 * tN) → ∀ (f n : Nat) (nI : Int32) (Im : Nat → Nat → Int32), n + f = zN w → nI.toInt = n → yT w Im → (∀ c k, ¬ (c = 57 ∧ k = 7) → c ≠ 58 → Im c k = Ib c k) → (Im 57 7 = 1 ∨ Im = Ib) → (∀ y, y < 2401 → (Im 58 y).toInt = if 0 ≤ (Ib 58 y).toInt then (Ib 58 y).toInt + zis w (tN + 1) y n else (Ib 58 y).toInt) → ∃ (nI' : Int32) (I' : Nat → Nat → Int32), (∀ (vv : Option Value) (h' : xH), xEv L xs (d + 5) 84 66 [.ref 57, .ref 3, .int q, .int t, .int nI'] [] (124, I', J, R) vv h' → xEv L xs (d + 5) 84 66 [.ref 57, .ref 3, .int q, .int t, .int nI] [] (124, Im, J, R) vv h') ∧ nI'.toInt = zN w ∧ yT w I' ∧ (∀ c k, ¬ (c = 57 ∧ k = 7) → c ≠ 58 → I' c k = Ib c k) ∧ (I' 57 7 = 1 ∨ I' = Ib) ∧ (∀ y, y < 2401 → (I' 58 y).toInt = if 0 ≤ (Ib 58 y).toInt then (Ib 58 y).toInt + zi w (tN + 1) y else (Ib 58 y).toInt) := by
    intro tN t q Ib et tl hTb hfb hbb f
    induction f with
    | zero =>
      intro n nI Im hn en hTm hfm h7 hw
      have e : n = zN w := by omega
      refine ⟨nI, Im, fun _ _ hk => hk, by omega, hTm, hfm, h7, fun y hy => ?_⟩
      rw [hw y hy, e, zis_h k4]
    | succ f ih =>
      intro n nI Im hn en hTm hfm h7 hw
      have nl : n < zN w := by omega
      have en' : (nI + 1).toInt = (n + 1 : Nat) := by rw [i_add1 (by omega)]; omega
      have et' : (t + 1).toInt = (tN + 1 : Nat) := by rw [i_add1 (by omega)]; omega
      have hfI : ∀ c k, c < 57 → Im c k = I c k := fun c k hc => (hfm c k (by omega) (by omega)).trans (hfb c k hc)
      have hCm := hCs Im hfI
      obtain ⟨-, -, -, c6⟩ := hCm
      obtain ⟨-, -, -, q13, -⟩ := c6 n nl
      have rk := at1 16 4 nI n Im (fun _ => rfl) (by decide) en (by omega) (d + 4)
      have g16 : (Im 3 16).toInt = zN w := (hCs Im hfI).1.1
      by_cases g : zL w n = tN + 1
      · have bw : ∀ y, y < 2401 → (Im 58 y).toInt ≤ 1000000 := fun y hy => by
          have b1 := hbb y hy
          have b2 := zis_b hK (tN + 1) y n
          rw [hw y hy]
          split <;> omega
        obtain ⟨Io, x1, x2, x3, x4⟩ := yrw_run_3 (L := L) (xs := xs) (d := d) (I := Im) (J := J) (R := R) hG hK (hCs Im hfI) hTm en nl bw
        have x4' : ∀ y, y < 2401 → (Io 58 y).toInt = if 0 ≤ (Ib 58 y).toInt then (Ib 58 y).toInt + zis w (tN + 1) y (n + 1) else (Ib 58 y).toInt := fun y hy => by
          have w1 := hw y hy
          have zb := zis_b hK (tN + 1) y n
          have zs := zis_s w (tN + 1) y n
          rw [x4 y hy]
          by_cases gb : 0 ≤ (Ib 58 y).toInt
          · rw [if_pos gb] at w1 ⊢
            by_cases gz : zd y n = zO w n
            · have ez : zi1 w (tN + 1) y n = zX w n := if_pos ⟨nl, g, gz⟩
              rw [if_pos ⟨by omega, gz⟩, w1, zs, ez]
              omega
            · have ez : zi1 w (tN + 1) y n = 0 := if_neg (fun h => gz h.2.2)
              rw [if_neg (show ¬ (0 ≤ (Im 58 y).toInt ∧ zd y n = zO w n) from fun h => gz h.2), w1, zs, ez]
              omega
          · rw [if_neg gb] at w1 ⊢
            rw [if_neg (show ¬ (0 ≤ (Im 58 y).toInt ∧ zd y n = zO w n) from fun h => by omega)]
            exact w1
        have nn : ∀ y, y < 2401 → (0 ≤ (Im 58 y).toInt ↔ 0 ≤ (Io 58 y).toInt) := fun y hy => by
          have w1 := hw y hy
          have w2 := x4' y hy
          have zb := zis_b hK (tN + 1) y n
          have zb2 := zis_b hK (tN + 1) y (n + 1)
          by_cases gb : 0 ≤ (Ib 58 y).toInt
          · rw [if_pos gb] at w1 w2
            omega
          · rw [if_neg gb] at w1 w2
            omega
        have hTo : yT w Io := by
          obtain ⟨kN, a1, a2, a3, a4, a5, a6⟩ := hTm
          refine ⟨kN, by rw [x3 57 5 (by omega) (by omega)]; exact a1, ?_, fun i hi => ?_, fun y hy h => ?_, fun i j hi hj h => ?_, fun y hy => ?_⟩
          · exact yCt_c a2 nn
          · obtain ⟨x, b1, b2, b3, b4⟩ := a3 i hi
            exact ⟨x, by rw [x3 59 i (by omega) (by omega)]; exact b1, b2, by rw [x3 60 i (by omega) (by omega)]; exact b3, (nn x b2.1.1).mp b4⟩
          · obtain ⟨i, b1, b2⟩ := a4 y hy ((nn y hy).mpr h)
            exact ⟨i, b1, by rw [x3 59 i (by omega) (by omega)]; exact b2⟩
          · rw [x3 59 i (by omega) (by omega), x3 59 j (by omega) (by omega)] at h
            exact a5 i j hi hj h
          · have w1 := hw y hy
            have w2 := x4' y hy
            have b6 := a6 y hy
            have zb := zis_b hK (tN + 1) y n
            have zb2 := zis_b hK (tN + 1) y (n + 1)
            by_cases gb : 0 ≤ (Ib 58 y).toInt
            · rw [if_pos gb] at w1 w2
              omega
            · rw [if_neg gb] at w1 w2
              omega
        obtain ⟨nI', I', y1, y2⟩ := ih (n + 1) (nI + 1) Io (by omega) en' hTo (fun c k e1 e2 => (x3 c k e1 e2).trans (hfm c k e1 e2)) (Or.inl x2) x4'
        exact ⟨nI', I', fun vv h' hk => ywo_r_3 hG (by omega) rk (by omega) x1 (y1 vv h' hk), y2⟩
      · obtain ⟨nI', I', y1, y2⟩ := ih (n + 1) (nI + 1) Im (by omega) en' hTm hfm h7 (fun y hy => by
          have zs := zis_s w (tN + 1) y n
          have ez : zi1 w (tN + 1) y n = 0 := if_neg (fun h => g h.2.1)
          rw [hw y hy, zs, ez, Int.add_zero])
        exact ⟨nI', I', fun vv h' hk => ywo_m_3 hG (by omega) rk (by omega) (y1 vv h' hk), y2⟩
  -- all times
  have lpT : ∀ (j tN qN : Nat) (t q : Int32) (w4 : Value) (Im : Nat → Nat → Int32), tN + j = zT w → t.toInt = tN → q.toInt = qN → qN ≤ tN → (∀ c k, c < 57 → Im c k = I c k) → Im 57 8 = 1 → yT w Im → yBa w Im → zQ w tN (fun y => (Im 58 y).toInt) → yW w tN Im → (∀ s, tN - qN ≤ s → s < tN → zC w s (fun y => (Im 58 y).toInt)) → ∃ I' : Nat → Nat → Int32, xEv L xs (d + 5) 84 22 [.ref 57, .ref 3, .int q, .int t, w4] [] (124, Im, J, R) none (124, I', J, R) ∧ I' 57 8 = 1 ∧ zx (zk w (zT w) (zE w)) (I' 57 6).toInt ∧ yW w (zT w) I' ∧ ∀ c k, c < 57 → I' c k = I c k := by
    intro j
    induction j with
    | zero =>
      intro tN qN t q w4 Im hj et eq qt hfm h8 hTm hBm hQm hWm hZm
      have e : tN = zT w := by omega
      rw [e] at hQm hWm
      obtain ⟨I', z1, z2, z3⟩ := lpG Im q w4 hTm hQm
      have c5 := (hCs Im hfm).1.2.2.2
      exact ⟨I', ywo_e_3 hG (by omega) z1, by rw [z2 57 8 (by omega)]; exact h8, z3, yW_e hWm (fun j => z2 61 j (by omega)), fun c k hc => (z2 c k (by omega)).trans (hfm c k hc)⟩
    | succ j jh =>
      intro tN qN t q w4 Im hj et eq qt hfm h8 hTm hBm hQm hWm hZm
      have tl : tN < zT w := by omega
      have et' : (t + 1).toInt = (tN + 1 : Nat) := by rw [i_add1 (by omega)]; omega
      have hCm := hCs Im hfm
      obtain ⟨⟨c1, c2, c3, c5⟩, cT, -, -⟩ := hCm
      obtain ⟨-, -, cU⟩ := cT tN tl
      obtain ⟨Ix, hIx⟩ : ∃ Ix, uI Im 57 7 0 = Ix := ⟨_, rfl⟩
      have x7 : Ix 57 7 = 0 := by rw [← hIx, uI_s]
      have xo : ∀ c k, ¬ (c = 57 ∧ k = 7) → Ix c k = Im c k := fun c k h => by rw [← hIx, uI_n _ _ h]
      have hTx : yT w Ix := yT_e hTm (xo 57 5 (by omega)) (fun i => xo 59 i (by omega)) (fun i => xo 60 i (by omega)) (fun i => xo 58 i (by omega))
      have hfx : ∀ c k, c < 57 → Ix c k = I c k := fun c k hc => (xo c k (by omega)).trans (hfm c k hc)
      have hQx : zQ w tN (fun y => (Ix 58 y).toInt) := zQ_e hQm (fun y => by show (Ix 58 y).toInt = (Im 58 y).toInt; rw [xo 58 y (by omega)])
      have hWx : yW w tN Ix := yW_e hWm (fun j => xo 61 j (by omega))
      -- behind the meeting: go on
      have rest : ∀ (Ib : Nat → Nat → Int32), yT w Ib → yBa w Ib → (∀ c k, c < 57 → Ib c k = I c k) → Ib 57 8 = 1 → zZ w tN (fun y => (Ib 58 y).toInt) → yW w (tN + 1) Ib → (Ib 57 7 = 1 ∨ (Ib 57 7 = 0 ∧ (∀ y, Ib 58 y = Im 58 y) ∧ zC w tN (fun y => (Im 58 y).toInt))) → ∃ I' : Nat → Nat → Int32, xEv L xs (d + 5) 84 66 [.ref 57, .ref 3, .int q, .int t, .int 0] [] (124, Ib, J, R) none (124, I', J, R) ∧ I' 57 8 = 1 ∧ zx (zk w (zT w) (zE w)) (I' 57 6).toInt ∧ yW w (zT w) I' ∧ ∀ c k, c < 57 → I' c k = I c k := by
        intro Ib hTb hBb hfb hb8 hZb hWb hch
        obtain ⟨nI, Ic, y1, y2, y3, y4, y5, y6⟩ := lpR tN t q Ib et tl hTb hfb (fun y hy => zZ_b hK hZb y hy) (zN w) 0 0 Ib (by omega) (by decide) hTb (fun _ _ _ _ => rfl) (Or.inr rfl) (fun y hy => by
          rw [show zis w (tN + 1) y 0 = 0 from rfl, Int.add_zero]
          split <;> rfl)
        have hfc : ∀ c k, c < 57 → Ic c k = I c k := fun c k hc => (y4 c k (by omega) (by omega)).trans (hfb c k hc)
        have hQc : zQ w (tN + 1) (fun y => (Ic 58 y).toInt) := zZ_Q hK hZb y6
        have hBc : yBa w Ic := yBa_e hBb (fun p => y4 62 p (by omega) (by omega))
        have hWc : yW w (tN + 1) Ic := yW_e hWb (fun j => y4 61 j (by omega) (by omega))
        have hc8 : Ic 57 8 = 1 := by rw [y4 57 8 (by omega) (by omega)]; exact hb8
        have g16 : (Ic 3 16).toInt = zN w := (hCs Ic hfc).1.1
        by_cases g7 : (Ic 57 7).toInt = 0
        · have n1 : Ic 57 7 ≠ 1 := fun e => by rw [e] at g7; exact absurd g7 (by decide)
          have eIc : Ic = Ib := by
            rcases y5 with h | h
            · exact absurd h n1
            · exact h
          have hc2 : (∀ y, Ib 58 y = Im 58 y) ∧ zC w tN (fun y => (Im 58 y).toInt) := by
            rcases hch with h | ⟨-, h⟩
            · rw [eIc] at n1
              exact absurd h n1
            · exact h
          have eW : (fun y => (Ic 58 y).toInt) = (fun y => (Im 58 y).toInt) := funext fun y => by rw [eIc, hc2.1 y]
          have eq' : (q + 1).toInt = (qN + 1 : Nat) := by rw [i_add1 (by omega)]; omega
          obtain ⟨I', z1, z2⟩ := jh (tN + 1) (qN + 1) (t + 1) (q + 1) (.int nI) Ic (by omega) et' eq' (by omega) hfc hc8 y3 hBc hQc hWc (fun s s1 s2 => by
            rw [eW]
            by_cases e : s = tN
            · rw [e]
              exact hc2.2
            · exact hZm s (by omega) (by omega))
          exact ⟨I', y1 _ _ (ywo_0_3 hG (by omega) g7 z1), z2⟩
        · obtain ⟨I', z1, z2⟩ := jh (tN + 1) 0 (t + 1) 0 (.int nI) Ic (by omega) et' (by decide) (by omega) hfc hc8 y3 hBc hQc hWc (fun s s1 s2 => absurd s2 (by omega))
          exact ⟨I', y1 _ _ (ywo_1_3 hG (by omega) g7 z1), z2⟩
      have quiet : zC w tN (fun y => (Im 58 y).toInt) → ∃ I' : Nat → Nat → Int32, xEv L xs (d + 5) 84 66 [.ref 57, .ref 3, .int q, .int t, .int 0] [] (124, Ix, J, R) none (124, I', J, R) ∧ I' 57 8 = 1 ∧ zx (zk w (zT w) (zE w)) (I' 57 6).toInt ∧ yW w (zT w) I' ∧ ∀ c k, c < 57 → I' c k = I c k := by
        intro hc
        have ex : (fun y => (Ix 58 y).toInt) = (fun y => (Im 58 y).toInt) := funext fun y => by rw [xo 58 y (by omega)]
        refine rest Ix hTx (yBa_e hBm (fun p => xo 62 p (by omega))) hfx (by rw [xo 57 8 (by omega)]; exact h8) ?_ ?_ (Or.inr ⟨x7, fun y => xo 58 y (by omega), hc⟩)
        · rw [ex]
          exact zC_Z hK h0 tl hQm hc
        · exact yW_c hK h0 tl hWx hQm hc
      have c15 : (Im 3 15).toInt = nm := c3
      by_cases gq : q.toInt ≥ (Im 3 15).toInt
      · have hc : zC w tN (fun y => (Im 58 y).toInt) := by
          obtain ⟨n1, n2⟩ := hD
          have n1' := n1 (by omega)
          have e : tN - nm + nm = tN := by omega
          obtain ⟨d1, d2, d3⟩ := n2 (tN - nm) (by omega)
          rw [e] at d1 d2 d3
          exact zC_p d1.symm d2.symm d3.symm (hZm (tN - nm) (by omega) (by omega))
        obtain ⟨I', z1, z2⟩ := quiet hc
        exact ⟨I', ywo_q_3 hG (by omega) gq (by rw [hIx]; exact z1), z2⟩
      have r22 := at1 22 64 t tN Ix (fun _ => rfl) (by decide) et (by omega) (d + 3)
      by_cases gu : (Im 22 tN).toInt = 10
      rotate_left
      · have hc : zC w tN (fun y => (Im 58 y).toInt) := fun x y hx g hy => by
          have e := zY_u (fun h => gu (cU.mpr h)) hy
          rw [e]
          exact Int.le_refl _
        obtain ⟨I', z1, z2⟩ := quiet hc
        exact ⟨I', ywo_u_3 hG (by omega) (by omega) (by rw [hIx]; exact cS_0_3 hG r22 (by rw [xo _ _ (by omega)]; exact gu)) (by rw [hIx]; exact z1), z2⟩
      have hu := cU.mp gu
      obtain ⟨I0, Ib, p1, p2, p3, p4⟩ := ypm_run_3 (L := L) (xs := xs) (d := d) (I := Ix) (J := J) (R := R) hG hK (hCs Ix hfx) (yBa_e hBm (fun p => xo 62 p (by omega))) et tl hH hu hTx
      have e0x : ∀ y, I0 58 y = Im 58 y := fun y => (p2 58 y (by omega)).trans (xo 58 y (by omega))
      have e0W : (fun y => (I0 58 y).toInt) = (fun y => (Im 58 y).toInt) := funext fun y => by rw [e0x y]
      have hQ0 : zQ w tN (fun y => (I0 58 y).toInt) := by rw [e0W]; exact hQm
      have hW0 : yW w tN I0 := yW_e hWx (fun j => p2 61 j (by omega))
      have hWb := yW_q hK h0 tl hW0 hQ0 p3 p4
      have hZb : zZ w tN (fun y => (Ib 58 y).toInt) := zQ_Z hK h0 tl hQ0 p4 (fun y hy g => p3.2.2.2.1 y hy g)
      obtain ⟨b1, b2, b3, b4, b5, b6, -⟩ := p3
      have hfb : ∀ c k, c < 57 → Ib c k = I c k := fun c k hc => (b2 c k (by omega) (by omega) (by omega) (by omega) (by omega)).trans ((p2 c k (by omega)).trans (hfx c k hc))
      obtain ⟨I', z1, z2⟩ := rest Ib b1 (yBa_e hBm (fun p => (b2 62 p (by omega) (by omega) (by omega) (by omega) (by omega)).trans ((p2 62 p (by omega)).trans (xo 62 p (by omega))))) hfb (by rw [b2 57 8 (by omega) (by omega) (by omega) (by omega) (by omega), p2 57 8 (by omega), xo 57 8 (by omega)]; exact h8) hZb hWb (by
        rcases b6 with h | h
        · exact Or.inl h
        · refine Or.inr ⟨by rw [h, p2 57 7 (by omega)]; exact x7, fun y => by rw [h]; exact e0x y, ?_⟩
          rw [h] at p4
          rw [← e0W]
          exact p4)
      exact ⟨I', ywo_p_3 hG (by omega) (by omega) (by rw [hIx]; exact cS_1_3 hG r22 (by rw [xo _ _ (by omega)]; exact gu)) (by rw [hIx]; exact p1) z1, z2⟩
  have hQs : zQ w 0 (fun y => (Is 58 y).toInt) := zQ_0 hK s58 sE
  obtain ⟨I', z1, z2⟩ := lpT (zT w) 0 0 0 0 xmk Is (by omega) (by decide) (by decide) (Nat.le_refl _) sfr' (by rw [s8, uI_s]) sT sB hQs sW (fun s s1 s2 => absurd s2 (by omega))
  exact ⟨I', ywo_s_3 hG hk0 xs0 z1, z2⟩
theorem ywo_run_23 {L : Nat} {xs : Nat → Int32} {d : Nat} {I : Nat → Nat → Int32} {J : Nat → Nat → Int64} {R : Nat → Nat → Nat} (hG : aGd R) {w : zW} {nm : Nat} (hK : zK w) (h0 : zV w (zE w)) (hH : ∀ p, p < zP w → zH w p ≤ 3) (hL : ∀ n, n < zN w → zL w n ≤ 64) (hD : zD w nm) (hC : zCl_23 w nm I) (hk0 : (I 57 8).toInt = 0) :
    ∃ I' : Nat → Nat → Int32, xEv L xs (d + 5) 84 0 [.ref 57, .ref 23, xmk, xmk, xmk] [] (124, I, J, R) none (124, I', J, R) ∧ I' 57 8 = 1 ∧ zx (zk w (zT w) (zE w)) (I' 57 6).toInt ∧ yW w (zT w) I' ∧ ∀ c k, c < 57 → I' c k = I c k := by
  have k4 := hK.1
  have p7 := hK.2.1
  have k64 := hK.2.2.1
  have at1 : ∀ (c n : Nat) (i : Int32) (iN : Nat) (Im : Nat → Nat → Int32), (∀ g : FieldType → Nat → Option xR, xarr (124, Im, J, R) c g = g .int n) → n < 2147483648 → i.toInt = iN → iN < n → ∀ d, xEv L xs d 39 0 [.ref c, .int i] [] (124, Im, J, R) (some (.int (Im c iN))) (124, Im, J, R) := by
    intro c n i iN Im ho hn ei hi d
    have ec := clamp_s (i := i) (by omega)
    have h4 := at_run (L := L) (xs := xs) (d := d) (h := (124, Im, J, R)) (c := c) (n := n) ho hn i
    rw [if_pos ⟨by omega, by omega⟩, show i.toNatClampNeg = iN by omega] at h4
    exact h4
  obtain ⟨Is, xs0, sT, sB, s58, sE, sW, sfr, s8⟩ := yst_run_23 (L := L) (xs := xs) (d := d) (I := uI I 57 8 1) (J := J) (R := R) hG hK h0 (zCl_f_23 hC (fun c k hc => uI_n _ _ (by omega)))
  have hCs : ∀ Im : Nat → Nat → Int32, (∀ c k, c < 57 → Im c k = I c k) → zCl_23 w nm Im := fun Im h => zCl_f_23 hC h
  have sfr' : ∀ c k, c < 57 → Is c k = I c k := fun c k hc => by rw [sfr c k hc, uI_n _ _ (by omega)]
  -- the greatest
  have lpG : ∀ (Ig : Nat → Nat → Int32) (q : Int32) (w4 : Value), yT w Ig → zQ w (zT w) (fun y => (Ig 58 y).toInt) → ∃ I' : Nat → Nat → Int32, xEv L xs (d + 5) 84 131 [.ref 57, .ref 23, .int q, .int 0, w4] [] (124, uI Ig 57 6 0, J, R) none (124, I', J, R) ∧ (∀ c k, ¬ (c = 57 ∧ k = 6) → I' c k = Ig c k) ∧ zx (zk w (zT w) (zE w)) (I' 57 6).toInt := by
    intro Ig q w4 hT hQ
    obtain ⟨kN, a1, a2, a3, a4, a5, a6⟩ := hT
    have kl : kN ≤ 2401 := yCt_b a2
    have lp : ∀ (j k : Nat) (i : Int32) (Im : Nat → Nat → Int32), k + j = kN → i.toInt = k → (∀ c k, ¬ (c = 57 ∧ k = 6) → Im c k = Ig c k) → 0 ≤ (Im 57 6).toInt → (∀ k', k' < k → ∀ x : Nat, (Ig 59 k').toInt = x → (Ig 58 x).toInt ≤ (Im 57 6).toInt) → ((Im 57 6).toInt = 0 ∨ ∃ x, x < 2401 ∧ 0 ≤ (Ig 58 x).toInt ∧ (Im 57 6).toInt = (Ig 58 x).toInt) → ∃ I' : Nat → Nat → Int32, xEv L xs (d + 5) 84 131 [.ref 57, .ref 23, .int q, .int i, w4] [] (124, Im, J, R) none (124, I', J, R) ∧ (∀ c k, ¬ (c = 57 ∧ k = 6) → I' c k = Ig c k) ∧ (∀ k', k' < kN → ∀ x : Nat, (Ig 59 k').toInt = x → (Ig 58 x).toInt ≤ (I' 57 6).toInt) ∧ ((I' 57 6).toInt = 0 ∨ ∃ x, x < 2401 ∧ 0 ≤ (Ig 58 x).toInt ∧ (I' 57 6).toInt = (Ig 58 x).toInt) := by
      intro j
      induction j with
      | zero =>
        intro k i Im hk ei hf h6 hm ha
        have e : k = kN := by omega
        rw [e] at hm
        exact ⟨Im, ywo_g_23 hG (by rw [hf 57 5 (by omega)]; omega), hf, hm, ha⟩
      | succ j ih =>
        intro k i Im hk ei hf h6 hm ha
        have ei' : (i + 1).toInt = (k + 1 : Nat) := by rw [i_add1 (by omega)]; omega
        obtain ⟨x, b1, b2, b3, b4⟩ := a3 k (by omega)
        have xl := b2.1.1
        have r59 := at1 59 2401 i k Im (fun _ => rfl) (by decide) ei (by omega) (d + 4)
        rw [hf 59 k (by omega)] at r59
        have r58 := at1 58 2401 (Ig 59 k) x Im (fun _ => rfl) (by decide) b1 xl (d + 4)
        rw [hf 58 x (by omega)] at r58
        obtain ⟨z, hz⟩ : ∃ z, (if Im 57 6 < Ig 58 x then Ig 58 x else Im 57 6) = z := ⟨_, rfl⟩
        have zz : (z = Ig 58 x ∧ (Im 57 6).toInt < (Ig 58 x).toInt) ∨ (z = Im 57 6 ∧ (Ig 58 x).toInt ≤ (Im 57 6).toInt) := by
          by_cases g : Im 57 6 < Ig 58 x
          · rw [if_pos g] at hz
            exact Or.inl ⟨hz.symm, Int32.lt_iff_toInt_lt.mp g⟩
          · rw [if_neg g] at hz
            exact Or.inr ⟨hz.symm, Classical.byContradiction fun n => g (Int32.lt_iff_toInt_lt.mpr (by omega))⟩
        have zge : (Im 57 6).toInt ≤ z.toInt ∧ (Ig 58 x).toInt ≤ z.toInt := by
          rcases zz with ⟨e, l⟩ | ⟨e, l⟩
          · rw [e]; omega
          · rw [e]; omega
        obtain ⟨I', z1, z2⟩ := ih (k + 1) (i + 1) (uI Im 57 6 z) (by omega) ei' (fun c q hc => by rw [uI_n _ _ hc]; exact hf c q hc) (by rw [uI_s]; omega) (fun k' hk' x' hx' => by
          rw [uI_s]
          by_cases g : k' = k
          · rw [g] at hx'
            have e : x' = x := by omega
            rw [e]
            exact zge.2
          · exact Int.le_trans (hm k' (by omega) x' hx') zge.1) (by
          rw [uI_s]
          rcases zz with ⟨e, l⟩ | ⟨e, l⟩
          · rw [e]; exact Or.inr ⟨x, xl, b4, rfl⟩
          · rw [e]; exact ha)
        exact ⟨I', ywo_h_23 hG (by rw [hf 57 5 (by omega)]; omega) r59 r58 (by rw [hz]; exact z1), z2⟩
    obtain ⟨I', z1, z2, z3, z4⟩ := lp kN 0 0 (uI Ig 57 6 0) (by omega) (by decide) (fun c k hc => uI_n _ _ hc) (by rw [uI_s]; decide) (fun k' hk' => absurd hk' (by omega)) (Or.inl (by rw [uI_s]; decide))
    have all : ∀ y, y < 2401 → 0 ≤ (Ig 58 y).toInt → (Ig 58 y).toInt ≤ (I' 57 6).toInt := fun y hy g => by
      obtain ⟨i, b1, b2⟩ := a4 y hy g
      exact z3 i b1 y b2
    have rE : ∀ t, zr w t (zE w) := fun t => by
      induction t with
      | zero => exact zr_0.mpr rfl
      | succ t ih => exact zr_m ih
    have lE := zE_lt hK
    have gE := (zQ_r hQ lE).mpr (rE (zT w))
    have tot : zx (fun v => ∃ y, zp w (zT w) y v) (I' 57 6).toInt := by
      constructor
      · rcases z4 with e | ⟨x, x1, x2, x3⟩
        · have b := all _ lE gE
          have e2 : (I' 57 6).toInt = (Ig 58 (zE w)).toInt := by
            have : (0 : Int) ≤ (Ig 58 (zE w)).toInt := gE
            omega
          rw [e2]
          exact ⟨zE w, ((hQ _ lE).1 gE).1⟩
        · rw [x3]
          exact ⟨x, ((hQ x x1).1 x2).1⟩
      · rintro u ⟨y, hy⟩
        have yl := (zp_V hK h0 _ (Nat.le_refl _) y u hy).1.1
        have gy := (zQ_r hQ yl).mpr ⟨u, hy⟩
        have b1 := ((hQ y yl).1 gy).2 u hy
        have b2 := all y yl gy
        have b1' : u ≤ (Ig 58 y).toInt := b1
        omega
    exact ⟨I', z1, z2, zx_c (fun u => zp_T u) tot⟩
  -- rewards
  have lpR : ∀ (tN : Nat) (t q : Int32) (Ib : Nat → Nat → Int32), t.toInt = tN → tN < zT w → yT w Ib → (∀ c k, c < 57 → Ib c k = I c k) → (∀ y, y < 2401 → (Ib 58 y).toInt ≤ 396 * tN) → ∀ (f n : Nat) (nI : Int32) (Im : Nat → Nat → Int32), n + f = zN w → nI.toInt = n → yT w Im → (∀ c k, ¬ (c = 57 ∧ k = 7) → c ≠ 58 → Im c k = Ib c k) → (Im 57 7 = 1 ∨ Im = Ib) → (∀ y, y < 2401 → (Im 58 y).toInt = if 0 ≤ (Ib 58 y).toInt then (Ib 58 y).toInt + zis w (tN + 1) y n else (Ib 58 y).toInt) → ∃ (nI' : Int32) (I' : Nat → Nat → Int32), (∀ (vv : Option Value) (h' : xH), xEv L xs (d + 5) 84 66 [.ref 57, .ref 23, .int q, .int t, .int nI'] [] (124, I', J, R) vv h' → xEv L xs (d + 5) 84 66 [.ref 57, .ref 23, .int q, .int t, .int nI] [] (124, Im, J, R) vv h') ∧ nI'.toInt = zN w ∧ yT w I' ∧ (∀ c k, ¬ (c = 57 ∧ k = 7) → c ≠ 58 → I' c k = Ib c k) ∧ (I' 57 7 = 1 ∨ I' = Ib) ∧ (∀ y, y < 2401 → (I' 58 y).toInt = if 0 ≤ (Ib 58 y).toInt then (Ib 58 y).toInt + zi w (tN + 1) y else (Ib 58 y).toInt) := by
    intro tN t q Ib et tl hTb hfb hbb f
    induction f with
    | zero =>
      intro n nI Im hn en hTm hfm h7 hw
      have e : n = zN w := by omega
      refine ⟨nI, Im, fun _ _ hk => hk, by omega, hTm, hfm, h7, fun y hy => ?_⟩
      rw [hw y hy, e, zis_h k4]
    | succ f ih =>
      intro n nI Im hn en hTm hfm h7 hw
      have nl : n < zN w := by omega
      have en' : (nI + 1).toInt = (n + 1 : Nat) := by rw [i_add1 (by omega)]; omega
      have et' : (t + 1).toInt = (tN + 1 : Nat) := by rw [i_add1 (by omega)]; omega
      have hfI : ∀ c k, c < 57 → Im c k = I c k := fun c k hc => (hfm c k (by omega) (by omega)).trans (hfb c k hc)
      have hCm := hCs Im hfI
      obtain ⟨-, -, -, c6⟩ := hCm
      obtain ⟨-, -, -, q13, -⟩ := c6 n nl
      have rk := at1 36 4 nI n Im (fun _ => rfl) (by decide) en (by omega) (d + 4)
      have g16 : (Im 23 16).toInt = zN w := (hCs Im hfI).1.1
      by_cases g : zL w n = tN + 1
      · have bw : ∀ y, y < 2401 → (Im 58 y).toInt ≤ 1000000 := fun y hy => by
          have b1 := hbb y hy
          have b2 := zis_b hK (tN + 1) y n
          rw [hw y hy]
          split <;> omega
        obtain ⟨Io, x1, x2, x3, x4⟩ := yrw_run_23 (L := L) (xs := xs) (d := d) (I := Im) (J := J) (R := R) hG hK (hCs Im hfI) hTm en nl bw
        have x4' : ∀ y, y < 2401 → (Io 58 y).toInt = if 0 ≤ (Ib 58 y).toInt then (Ib 58 y).toInt + zis w (tN + 1) y (n + 1) else (Ib 58 y).toInt := fun y hy => by
          have w1 := hw y hy
          have zb := zis_b hK (tN + 1) y n
          have zs := zis_s w (tN + 1) y n
          rw [x4 y hy]
          by_cases gb : 0 ≤ (Ib 58 y).toInt
          · rw [if_pos gb] at w1 ⊢
            by_cases gz : zd y n = zO w n
            · have ez : zi1 w (tN + 1) y n = zX w n := if_pos ⟨nl, g, gz⟩
              rw [if_pos ⟨by omega, gz⟩, w1, zs, ez]
              omega
            · have ez : zi1 w (tN + 1) y n = 0 := if_neg (fun h => gz h.2.2)
              rw [if_neg (show ¬ (0 ≤ (Im 58 y).toInt ∧ zd y n = zO w n) from fun h => gz h.2), w1, zs, ez]
              omega
          · rw [if_neg gb] at w1 ⊢
            rw [if_neg (show ¬ (0 ≤ (Im 58 y).toInt ∧ zd y n = zO w n) from fun h => by omega)]
            exact w1
        have nn : ∀ y, y < 2401 → (0 ≤ (Im 58 y).toInt ↔ 0 ≤ (Io 58 y).toInt) := fun y hy => by
          have w1 := hw y hy
          have w2 := x4' y hy
          have zb := zis_b hK (tN + 1) y n
          have zb2 := zis_b hK (tN + 1) y (n + 1)
          by_cases gb : 0 ≤ (Ib 58 y).toInt
          · rw [if_pos gb] at w1 w2
            omega
          · rw [if_neg gb] at w1 w2
            omega
        have hTo : yT w Io := by
          obtain ⟨kN, a1, a2, a3, a4, a5, a6⟩ := hTm
          refine ⟨kN, by rw [x3 57 5 (by omega) (by omega)]; exact a1, ?_, fun i hi => ?_, fun y hy h => ?_, fun i j hi hj h => ?_, fun y hy => ?_⟩
          · exact yCt_c a2 nn
          · obtain ⟨x, b1, b2, b3, b4⟩ := a3 i hi
            exact ⟨x, by rw [x3 59 i (by omega) (by omega)]; exact b1, b2, by rw [x3 60 i (by omega) (by omega)]; exact b3, (nn x b2.1.1).mp b4⟩
          · obtain ⟨i, b1, b2⟩ := a4 y hy ((nn y hy).mpr h)
            exact ⟨i, b1, by rw [x3 59 i (by omega) (by omega)]; exact b2⟩
          · rw [x3 59 i (by omega) (by omega), x3 59 j (by omega) (by omega)] at h
            exact a5 i j hi hj h
          · have w1 := hw y hy
            have w2 := x4' y hy
            have b6 := a6 y hy
            have zb := zis_b hK (tN + 1) y n
            have zb2 := zis_b hK (tN + 1) y (n + 1)
            by_cases gb : 0 ≤ (Ib 58 y).toInt
            · rw [if_pos gb] at w1 w2
              omega
            · rw [if_neg gb] at w1 w2
              omega
        obtain ⟨nI', I', y1, y2⟩ := ih (n + 1) (nI + 1) Io (by omega) en' hTo (fun c k e1 e2 => (x3 c k e1 e2).trans (hfm c k e1 e2)) (Or.inl x2) x4'
        exact ⟨nI', I', fun vv h' hk => ywo_r_23 hG (by omega) rk (by omega) x1 (y1 vv h' hk), y2⟩
      · obtain ⟨nI', I', y1, y2⟩ := ih (n + 1) (nI + 1) Im (by omega) en' hTm hfm h7 (fun y hy => by
          have zs := zis_s w (tN + 1) y n
          have ez : zi1 w (tN + 1) y n = 0 := if_neg (fun h => g h.2.1)
          rw [hw y hy, zs, ez, Int.add_zero])
        exact ⟨nI', I', fun vv h' hk => ywo_m_23 hG (by omega) rk (by omega) (y1 vv h' hk), y2⟩
  -- all times
  have lpT : ∀ (j tN qN : Nat) (t q : Int32) (w4 : Value) (Im : Nat → Nat → Int32), tN + j = zT w → t.toInt = tN → q.toInt = qN → qN ≤ tN → (∀ c k, c < 57 → Im c k = I c k) → Im 57 8 = 1 → yT w Im → yBa w Im → zQ w tN (fun y => (Im 58 y).toInt) → yW w tN Im → (∀ s, tN - qN ≤ s → s < tN → zC w s (fun y => (Im 58 y).toInt)) → ∃ I' : Nat → Nat → Int32, xEv L xs (d + 5) 84 22 [.ref 57, .ref 23, .int q, .int t, w4] [] (124, Im, J, R) none (124, I', J, R) ∧ I' 57 8 = 1 ∧ zx (zk w (zT w) (zE w)) (I' 57 6).toInt ∧ yW w (zT w) I' ∧ ∀ c k, c < 57 → I' c k = I c k := by
    intro j
    induction j with
    | zero =>
      intro tN qN t q w4 Im hj et eq qt hfm h8 hTm hBm hQm hWm hZm
      have e : tN = zT w := by omega
      rw [e] at hQm hWm
      obtain ⟨I', z1, z2, z3⟩ := lpG Im q w4 hTm hQm
      have c5 := (hCs Im hfm).1.2.2.2
      exact ⟨I', ywo_e_23 hG (by omega) z1, by rw [z2 57 8 (by omega)]; exact h8, z3, yW_e hWm (fun j => z2 61 j (by omega)), fun c k hc => (z2 c k (by omega)).trans (hfm c k hc)⟩
    | succ j jh =>
      intro tN qN t q w4 Im hj et eq qt hfm h8 hTm hBm hQm hWm hZm
      have tl : tN < zT w := by omega
      have et' : (t + 1).toInt = (tN + 1 : Nat) := by rw [i_add1 (by omega)]; omega
      have hCm := hCs Im hfm
      obtain ⟨⟨c1, c2, c3, c5⟩, cT, -, -⟩ := hCm
      obtain ⟨-, -, cU⟩ := cT tN tl
      obtain ⟨Ix, hIx⟩ : ∃ Ix, uI Im 57 7 0 = Ix := ⟨_, rfl⟩
      have x7 : Ix 57 7 = 0 := by rw [← hIx, uI_s]
      have xo : ∀ c k, ¬ (c = 57 ∧ k = 7) → Ix c k = Im c k := fun c k h => by rw [← hIx, uI_n _ _ h]
      have hTx : yT w Ix := yT_e hTm (xo 57 5 (by omega)) (fun i => xo 59 i (by omega)) (fun i => xo 60 i (by omega)) (fun i => xo 58 i (by omega))
      have hfx : ∀ c k, c < 57 → Ix c k = I c k := fun c k hc => (xo c k (by omega)).trans (hfm c k hc)
      have hQx : zQ w tN (fun y => (Ix 58 y).toInt) := zQ_e hQm (fun y => by show (Ix 58 y).toInt = (Im 58 y).toInt; rw [xo 58 y (by omega)])
      have hWx : yW w tN Ix := yW_e hWm (fun j => xo 61 j (by omega))
      -- behind the meeting: go on
      have rest : ∀ (Ib : Nat → Nat → Int32), yT w Ib → yBa w Ib → (∀ c k, c < 57 → Ib c k = I c k) → Ib 57 8 = 1 → zZ w tN (fun y => (Ib 58 y).toInt) → yW w (tN + 1) Ib → (Ib 57 7 = 1 ∨ (Ib 57 7 = 0 ∧ (∀ y, Ib 58 y = Im 58 y) ∧ zC w tN (fun y => (Im 58 y).toInt))) → ∃ I' : Nat → Nat → Int32, xEv L xs (d + 5) 84 66 [.ref 57, .ref 23, .int q, .int t, .int 0] [] (124, Ib, J, R) none (124, I', J, R) ∧ I' 57 8 = 1 ∧ zx (zk w (zT w) (zE w)) (I' 57 6).toInt ∧ yW w (zT w) I' ∧ ∀ c k, c < 57 → I' c k = I c k := by
        intro Ib hTb hBb hfb hb8 hZb hWb hch
        obtain ⟨nI, Ic, y1, y2, y3, y4, y5, y6⟩ := lpR tN t q Ib et tl hTb hfb (fun y hy => zZ_b hK hZb y hy) (zN w) 0 0 Ib (by omega) (by decide) hTb (fun _ _ _ _ => rfl) (Or.inr rfl) (fun y hy => by
          rw [show zis w (tN + 1) y 0 = 0 from rfl, Int.add_zero]
          split <;> rfl)
        have hfc : ∀ c k, c < 57 → Ic c k = I c k := fun c k hc => (y4 c k (by omega) (by omega)).trans (hfb c k hc)
        have hQc : zQ w (tN + 1) (fun y => (Ic 58 y).toInt) := zZ_Q hK hZb y6
        have hBc : yBa w Ic := yBa_e hBb (fun p => y4 62 p (by omega) (by omega))
        have hWc : yW w (tN + 1) Ic := yW_e hWb (fun j => y4 61 j (by omega) (by omega))
        have hc8 : Ic 57 8 = 1 := by rw [y4 57 8 (by omega) (by omega)]; exact hb8
        have g16 : (Ic 23 16).toInt = zN w := (hCs Ic hfc).1.1
        by_cases g7 : (Ic 57 7).toInt = 0
        · have n1 : Ic 57 7 ≠ 1 := fun e => by rw [e] at g7; exact absurd g7 (by decide)
          have eIc : Ic = Ib := by
            rcases y5 with h | h
            · exact absurd h n1
            · exact h
          have hc2 : (∀ y, Ib 58 y = Im 58 y) ∧ zC w tN (fun y => (Im 58 y).toInt) := by
            rcases hch with h | ⟨-, h⟩
            · rw [eIc] at n1
              exact absurd h n1
            · exact h
          have eW : (fun y => (Ic 58 y).toInt) = (fun y => (Im 58 y).toInt) := funext fun y => by rw [eIc, hc2.1 y]
          have eq' : (q + 1).toInt = (qN + 1 : Nat) := by rw [i_add1 (by omega)]; omega
          obtain ⟨I', z1, z2⟩ := jh (tN + 1) (qN + 1) (t + 1) (q + 1) (.int nI) Ic (by omega) et' eq' (by omega) hfc hc8 y3 hBc hQc hWc (fun s s1 s2 => by
            rw [eW]
            by_cases e : s = tN
            · rw [e]
              exact hc2.2
            · exact hZm s (by omega) (by omega))
          exact ⟨I', y1 _ _ (ywo_0_23 hG (by omega) g7 z1), z2⟩
        · obtain ⟨I', z1, z2⟩ := jh (tN + 1) 0 (t + 1) 0 (.int nI) Ic (by omega) et' (by decide) (by omega) hfc hc8 y3 hBc hQc hWc (fun s s1 s2 => absurd s2 (by omega))
          exact ⟨I', y1 _ _ (ywo_1_23 hG (by omega) g7 z1), z2⟩
      have quiet : zC w tN (fun y => (Im 58 y).toInt) → ∃ I' : Nat → Nat → Int32, xEv L xs (d + 5) 84 66 [.ref 57, .ref 23, .int q, .int t, .int 0] [] (124, Ix, J, R) none (124, I', J, R) ∧ I' 57 8 = 1 ∧ zx (zk w (zT w) (zE w)) (I' 57 6).toInt ∧ yW w (zT w) I' ∧ ∀ c k, c < 57 → I' c k = I c k := by
        intro hc
        have ex : (fun y => (Ix 58 y).toInt) = (fun y => (Im 58 y).toInt) := funext fun y => by rw [xo 58 y (by omega)]
        refine rest Ix hTx (yBa_e hBm (fun p => xo 62 p (by omega))) hfx (by rw [xo 57 8 (by omega)]; exact h8) ?_ ?_ (Or.inr ⟨x7, fun y => xo 58 y (by omega), hc⟩)
        · rw [ex]
          exact zC_Z hK h0 tl hQm hc
        · exact yW_c hK h0 tl hWx hQm hc
      have c15 : (Im 23 15).toInt = nm := c3
      by_cases gq : q.toInt ≥ (Im 23 15).toInt
      · have hc : zC w tN (fun y => (Im 58 y).toInt) := by
          obtain ⟨n1, n2⟩ := hD
          have n1' := n1 (by omega)
          have e : tN - nm + nm = tN := by omega
          obtain ⟨d1, d2, d3⟩ := n2 (tN - nm) (by omega)
          rw [e] at d1 d2 d3
          exact zC_p d1.symm d2.symm d3.symm (hZm (tN - nm) (by omega) (by omega))
        obtain ⟨I', z1, z2⟩ := quiet hc
        exact ⟨I', ywo_q_23 hG (by omega) gq (by rw [hIx]; exact z1), z2⟩
      have r22 := at1 42 64 t tN Ix (fun _ => rfl) (by decide) et (by omega) (d + 3)
      by_cases gu : (Im 42 tN).toInt = 10
      rotate_left
      · have hc : zC w tN (fun y => (Im 58 y).toInt) := fun x y hx g hy => by
          have e := zY_u (fun h => gu (cU.mpr h)) hy
          rw [e]
          exact Int.le_refl _
        obtain ⟨I', z1, z2⟩ := quiet hc
        exact ⟨I', ywo_u_23 hG (by omega) (by omega) (by rw [hIx]; exact cS_0_23 hG r22 (by rw [xo _ _ (by omega)]; exact gu)) (by rw [hIx]; exact z1), z2⟩
      have hu := cU.mp gu
      obtain ⟨I0, Ib, p1, p2, p3, p4⟩ := ypm_run_23 (L := L) (xs := xs) (d := d) (I := Ix) (J := J) (R := R) hG hK (hCs Ix hfx) (yBa_e hBm (fun p => xo 62 p (by omega))) et tl hH hu hTx
      have e0x : ∀ y, I0 58 y = Im 58 y := fun y => (p2 58 y (by omega)).trans (xo 58 y (by omega))
      have e0W : (fun y => (I0 58 y).toInt) = (fun y => (Im 58 y).toInt) := funext fun y => by rw [e0x y]
      have hQ0 : zQ w tN (fun y => (I0 58 y).toInt) := by rw [e0W]; exact hQm
      have hW0 : yW w tN I0 := yW_e hWx (fun j => p2 61 j (by omega))
      have hWb := yW_q hK h0 tl hW0 hQ0 p3 p4
      have hZb : zZ w tN (fun y => (Ib 58 y).toInt) := zQ_Z hK h0 tl hQ0 p4 (fun y hy g => p3.2.2.2.1 y hy g)
      obtain ⟨b1, b2, b3, b4, b5, b6, -⟩ := p3
      have hfb : ∀ c k, c < 57 → Ib c k = I c k := fun c k hc => (b2 c k (by omega) (by omega) (by omega) (by omega) (by omega)).trans ((p2 c k (by omega)).trans (hfx c k hc))
      obtain ⟨I', z1, z2⟩ := rest Ib b1 (yBa_e hBm (fun p => (b2 62 p (by omega) (by omega) (by omega) (by omega) (by omega)).trans ((p2 62 p (by omega)).trans (xo 62 p (by omega))))) hfb (by rw [b2 57 8 (by omega) (by omega) (by omega) (by omega) (by omega), p2 57 8 (by omega), xo 57 8 (by omega)]; exact h8) hZb hWb (by
        rcases b6 with h | h
        · exact Or.inl h
        · refine Or.inr ⟨by rw [h, p2 57 7 (by omega)]; exact x7, fun y => by rw [h]; exact e0x y, ?_⟩
          rw [h] at p4
          rw [← e0W]
          exact p4)
      exact ⟨I', ywo_p_23 hG (by omega) (by omega) (by rw [hIx]; exact cS_1_23 hG r22 (by rw [xo _ _ (by omega)]; exact gu)) (by rw [hIx]; exact p1) z1, z2⟩
  have hQs : zQ w 0 (fun y => (Is 58 y).toInt) := zQ_0 hK s58 sE
  obtain ⟨I', z1, z2⟩ := lpT (zT w) 0 0 0 0 xmk Is (by omega) (by decide) (by decide) (Nat.le_refl _) sfr' (by rw [s8, uI_s]) sT sB hQs sW (fun s s1 s2 => absurd s2 (by omega))
  exact ⟨I', ywo_s_23 hG hk0 xs0 z1, z2⟩
