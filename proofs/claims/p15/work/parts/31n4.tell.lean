/-- the two who meet -/
def yM (w : zW) (t : Nat) (I : Nat → Nat → Int32) : Prop := (I 57 9).toInt = zA w t ∧ (I 57 10).toInt = zB w t ∧ (I 57 11).toInt = zH w (zA w t) ∧ (I 57 12).toInt = zH w (zB w t) ∧ (∀ n, n < zN w → tb (I 57 13) n = !zR w n (zA w t)) ∧ (∀ n, n < zN w → tb (I 57 14) n = !zR w n (zB w t))
theorem yM_f {w : zW} {t : Nat} {I I' : Nat → Nat → Int32} (h : yM w t I) (f : yF I I') : yM w t I' := by
  have e : ∀ k, 9 ≤ k → I' 57 k = I 57 k := fun k hk => f 57 k (by omega) (by omega) (by omega) (by omega) (by omega)
  unfold yM
  rw [e 9 (by omega), e 10 (by omega), e 11 (by omega), e 12 (by omega), e 13 (by omega), e 14 (by omega)]
  exact h
/-- within a meeting -/
def yQ (w : zW) (t : Nat) (I0 I : Nat → Nat → Int32) : Prop := yT w I ∧ yF I0 I ∧ (∀ y, (I0 58 y).toInt ≤ (I 58 y).toInt) ∧ (∀ y, y < 2401 → 0 ≤ (I 58 y).toInt → ∃ x, x < 2401 ∧ 0 ≤ (I0 58 x).toInt ∧ zY w t x y ∧ (I 58 y).toInt = (I0 58 x).toInt) ∧ ((I0 57 5).toInt ≤ (I 57 5).toInt ∧ ∀ i : Nat, (i : Int) < (I0 57 5).toInt → I 59 i = I0 59 i ∧ I 60 i = I0 60 i) ∧ (I 57 7 = 1 ∨ I = I0) ∧ (∀ j, j < 112 → (I 61 j).toInt ≤ (I0 61 j).toInt) ∧ (∀ y, y < 2401 → (I0 58 y).toInt < 0 → 0 ≤ (I 58 y).toInt → ∀ p, p < 7 → (I 61 (yS w y p * 7 + p)).toInt ≤ t) ∧ (∀ j, I 61 j = I0 61 j ∨ ((I 61 j).toInt = t ∧ ∃ y p, y < 2401 ∧ 0 ≤ (I 58 y).toInt ∧ p < 7 ∧ j = yS w y p * 7 + p))
theorem yQ_0 {w : zW} {t : Nat} {I : Nat → Nat → Int32} (hT : yT w I) : yQ w t I I :=
  ⟨hT, yF_r, fun _ => Int.le_refl _, fun y hy g => ⟨y, hy, g, zY_r w t y, rfl⟩, ⟨Int.le_refl _, fun _ _ => ⟨rfl, rfl⟩⟩, Or.inr rfl, fun _ _ => Int.le_refl _, fun y _ a b => by omega, fun _ => Or.inl rfl⟩
theorem yT_V {w : zW} {I : Nat → Nat → Int32} (hT : yT w I) {y : Nat} (hy : y < 2401) (h : 0 ≤ (I 58 y).toInt) : zV w y := by
  obtain ⟨kN, -, -, a3, a4, -, -⟩ := hT
  obtain ⟨i, b1, b2⟩ := a4 y hy h
  obtain ⟨x, c1, c2, -⟩ := a3 i b1
  have e : x = y := by omega
  rw [← e]
  exact c2
/-- one comes -/
theorem yQ_a {w : zW} {t : Nat} {I0 I I' : Nat → Nat → Int32} {y x0 : Nat} {c : Int32} (hP : yQ w t I0 I) (hA : yA w I I' y c t) (hy : y < 2401) (hx : x0 < 2401) (h0 : 0 ≤ (I0 58 x0).toInt) (hc : c.toInt = (I0 58 x0).toInt) (hz : zY w t x0 y) : yQ w t I0 I' ∧ c.toInt ≤ (I' 58 y).toInt ∧ ∀ z, (I 58 z).toInt ≤ (I' 58 z).toInt := by
  obtain ⟨p1, p2, p3, p4, ⟨p5, p6⟩, p7, p8, p9, p10⟩ := hP
  obtain ⟨a1, a2, a3, a4, a5, a6, a7, a8, a9⟩ := hA
  have up : ∀ z, (I 58 z).toInt ≤ (I' 58 z).toInt := fun z => by
    by_cases g : z = y
    · rw [g]
      rcases a4 with ⟨b1, b2⟩ | ⟨b1, b2, -⟩
      · rw [b2]; exact Int.le_refl _
      · rw [b2]; omega
    · rw [a3 z g]; exact Int.le_refl _
  have ly : c.toInt ≤ (I' 58 y).toInt := by
    rcases a4 with ⟨b1, b2⟩ | ⟨b1, b2, -⟩
    · rw [b2]; exact b1
    · rw [b2]; exact Int.le_refl _
  refine ⟨⟨a2, yF_t p2 a1, fun z => Int.le_trans (p3 z) (up z), fun z hz' g => ?_, ⟨Int.le_trans p5 a6, fun i hi => ?_⟩, ?_, fun j hj => Int.le_trans (a7 j hj) (p8 j hj), fun z hz' g1 g2 p hp => ?_, fun j => ?_⟩, ly, up⟩
  · by_cases gy : z = y
    · rcases a4 with ⟨b1, b2⟩ | ⟨b1, b2, -⟩
      · rw [b2] at g ⊢
        exact p4 z hz' g
      · rw [gy, b2]
        exact ⟨x0, hx, h0, hz, hc⟩
    · rw [a3 z gy] at g ⊢
      exact p4 z hz' g
  · obtain ⟨b1, b2⟩ := a5 i (by omega)
    obtain ⟨c1, c2⟩ := p6 i hi
    exact ⟨b1.trans c1, b2.trans c2⟩
  · rcases a4 with ⟨b1, b2⟩ | ⟨b1, b2, b3⟩
    · rw [b2]
      exact p7
    · exact Or.inl b3
  · have sl := yS_lt w z p
    by_cases g3 : 0 ≤ (I 58 z).toInt
    · exact Int.le_trans (a7 _ (by omega)) (p9 z hz' g1 g3 p hp)
    · have ez : z = y := Classical.byContradiction fun n => by
        rw [a3 z n] at g2
        exact g3 g2
      rw [ez] at g3 ⊢
      exact a8 (by omega) p hp
  · rcases a9 j with g | ⟨g1, g2, p, g3, g4⟩
    · rw [g]
      rcases p10 j with g' | ⟨b1, y', p', b2, b3, b4, b5⟩
      · exact Or.inl g'
      · exact Or.inr ⟨b1, y', p', b2, Int.le_trans b3 (up y'), b4, b5⟩
    · exact Or.inr ⟨g1, y, p, hy, by omega, g3, g4⟩
theorem zV_f {w : zW} (hK : zK w) {t : Nat} (ht : t < zT w) {x : Nat} {S : Nat → Bool} (hx : zV w x) (hs : ∀ n, n < 4 → S n = true → n < zN w ∧ zt w t x n) (hA : zh w (zf w t x S) (zA w t) ≤ zH w (zA w t)) (hB : zh w (zf w t x S) (zB w t) ≤ zH w (zB w t)) : zV w (zf w t x S) := by
  obtain ⟨ka, kb, kab, kap, kbp⟩ := zK_t hK ht
  obtain ⟨⟨x1, x2⟩, x3, x4⟩ := hx
  have k4 := hK.1
  obtain ⟨-, -, f3⟩ := zh_f (x := x) (S := S) ka kb kab
  refine ⟨⟨zf_lt ka kb, fun n hn hm => ?_⟩, fun n hn => ?_, fun p hp => ?_⟩
  · rw [zf_d ka kb hn]
    cases e : S n with
    | true =>
      have := (hs n hn e).1
      omega
    | false =>
      rw [if_neg (by decide)]
      exact x2 n hn hm
  · rw [zf_d ka kb (by omega)]
    cases e : S n with
    | true =>
      rw [if_pos rfl]
      rcases (hs n (by omega) e).2 with ⟨a, -⟩ | ⟨a, -⟩
      · rw [a, zw_A]; exact kbp
      · rw [a, zw_B kab]; exact kap
    | false =>
      rw [if_neg (by decide)]
      exact x3 n hn
  · by_cases g1 : p = zA w t
    · rw [g1]; exact hA
    · by_cases g2 : p = zB w t
      · rw [g2]; exact hB
      · rw [f3 p g1 g2]
        exact x4 p hp
theorem i_ng {x : Int32} (h : -2147483648 < x.toInt) : (-x).toInt = -x.toInt := by
  have e : -x = 0 - x := by
    apply Int32.toBitVec_inj.mp
    simp
  have := aw x
  have e0 : (0 : Int32).toInt = 0 := by decide
  rw [e, i_sub (by rw [e0]; omega) (by rw [e0]; omega), e0]
  omega
theorem p_bd {a b : Int} (a0 : -400 ≤ a) (a1 : a ≤ 400) (b0 : -6 ≤ b) (b1 : b ≤ 6) : -2400 ≤ a * b ∧ a * b ≤ 2400 := by
  have e : b = -6 ∨ b = -5 ∨ b = -4 ∨ b = -3 ∨ b = -2 ∨ b = -1 ∨ b = 0 ∨ b = 1 ∨ b = 2 ∨ b = 3 ∨ b = 4 ∨ b = 5 ∨ b = 6 := by omega
  rcases e with rfl | rfl | rfl | rfl | rfl | rfl | rfl | rfl | rfl | rfl | rfl | rfl | rfl <;> omega
/-- all that the two can tell each other -/
theorem ytf_run {L : Nat} {xs : Nat → Int32} {d : Nat} {I : Nat → Nat → Int32} {J : Nat → Nat → Int64} {R : Nat → Nat → Nat} (hG : aGd R) {w : zW} (hK : zK w) {t : Int32} {tN : Nat} (ht : t.toInt = tN) (tl : tN < zT w) (hH : ∀ p, p < zP w → zH w p ≤ 3) (hu : zU w tN) (hM : yM w tN I) {x h : Int32} {xN : Nat} (hx : x.toInt = xN) (hv : zV w xN) (hh : yHd w h xN) (h0 : 0 ≤ (I 58 xN).toInt) {I0 : Nat → Nat → Int32} (hT0 : yT w I0) (hP : yQ w tN I0 I) :
    ∃ I' : Nat → Nat → Int32, xEv L xs (d + 3) 89 0 [.ref 57, .int x, .int h, .int t, xmk, xmk, xmk, xmk, xmk, xmk, xmk, xmk, xmk, xmk] [] (124, I, J, R) none (124, I', J, R) ∧ yM w tN I' ∧ yQ w tN I0 I' ∧ (∀ z, (I 58 z).toInt ≤ (I' 58 z).toInt) ∧ ∀ y, zY w tN xN y → (I 58 xN).toInt ≤ (I' 58 y).toInt := by
  obtain ⟨ka, kb, kab, kap, kbp⟩ := zK_t hK tl
  have k4 := hK.1
  have xl := hv.1.1
  obtain ⟨m1, m2, m3, m4, m5, m6⟩ := hM
  have HA := hH _ kap
  have HB := hH _ kbp
  have vA := hv.2.2 _ kap
  have vB := hv.2.2 _ kbp
  obtain ⟨F, hF⟩ : ∃ F, yS w xN (zA w tN) = F := ⟨_, rfl⟩
  obtain ⟨G, hGG⟩ : ∃ G, yS w xN (zB w tN) = G := ⟨_, rfl⟩
  have Fl : F < 16 := by rw [← hF]; exact yS_lt _ _ _
  have Gl : G < 16 := by rw [← hGG]; exact yS_lt _ _ _
  have s1 := yso_run (L := L) (xs := xs) (d := d + 2) (I := I) (J := J) (R := R) hG hh m1 ka
  have s2 := yso_run (L := L) (xs := xs) (d := d + 2) (I := I) (J := J) (R := R) hG hh m2 kb
  rw [hF] at s1
  rw [hGG] at s2
  obtain ⟨a, s3, ea⟩ := ybc_run (L := L) (xs := xs) (d := d + 2) (I := I) (J := J) (R := R) hG Fl
  obtain ⟨b, s4, eb⟩ := ybc_run (L := L) (xs := xs) (d := d + 2) (I := I) (J := J) (R := R) hG Gl
  rw [← hF, yP_S] at ea
  rw [← hGG, yP_S] at eb
  have eT : (Int32.ofNat F &&& I 57 14) ||| (Int32.ofNat G &&& I 57 13) = Int32.ofNat (y4 (yb w tN xN)) := yT_of (by rw [hF]) (by rw [hGG]) m6 m5
  obtain ⟨TN, hTN⟩ : ∃ TN, y4 (yb w tN xN) = TN := ⟨_, rfl⟩
  have Tl : TN < 16 := by rw [← hTN]; exact y4_lt _
  have Tt : ∀ n, n < 4 → (TN.testBit n = true ↔ n < zN w ∧ zt w tN xN n) := fun n hn => by rw [← hTN, y4_t _ n hn]; exact yb_t w tN xN n
  rw [hTN] at eT
  have eTi := y_i Tl
  -- where nothing goes over
  have none_ : (∀ S, zS w tN xN S → ∀ n, n < 4 → S n = false) → ∀ y, zY w tN xN y → y = xN := by
    intro no y hy
    rcases (zY_i hK tl hv).mp hy with e | ⟨S, z1, z2, -⟩
    · exact e
    · rw [z2]
      exact zf_0 xl (no S z1)
  have rA : (I 57 11 - a).toInt = (zH w (zA w tN) : Int) - zh w xN (zA w tN) := by rw [i_sub (by omega) (by omega), m3, ea]
  have rB : (I 57 12 - b).toInt = (zH w (zB w tN) : Int) - zh w xN (zB w tN) := by rw [i_sub (by omega) (by omega), m4, eb]
  have rAB : ((I 57 11 - a) + (I 57 12 - b)).toInt = (zH w (zA w tN) : Int) - zh w xN (zA w tN) + ((zH w (zB w tN) : Int) - zh w xN (zB w tN)) := by rw [i_add (by omega) (by omega), rA, rB]
  by_cases g0 : TN = 0
  · have nothing := none_ (fun S hS n hn => by
      cases e : S n with
      | false => rfl
      | true =>
        have z := (Tt n hn).mpr (hS.2.1 n e)
        rw [g0, Nat.zero_testBit] at z
        exact absurd z (by decide))
    exact ⟨I, ytf_0 hG s1 s2 s3 s4 (by rw [eT, eTi, g0]; rfl), ⟨m1, m2, m3, m4, m5, m6⟩, hP, fun _ => Int.le_refl _, fun y hy => by rw [nothing y hy]; exact Int.le_refl _⟩
  by_cases g1 : ((I 57 11 - a) + (I 57 12 - b)).toInt < 1
  · have nothing := none_ (fun S hS n hn => by
      have := hS.2.2
      omega)
    exact ⟨I, ytf_1 hG s1 s2 s3 s4 (by rw [eT, eTi]; omega) g1, ⟨m1, m2, m3, m4, m5, m6⟩, hP, fun _ => Int.le_refl _, fun y hy => by rw [nothing y hy]; exact Int.le_refl _⟩
  have room : zh w xN (zA w tN) + zh w xN (zB w tN) < zH w (zA w tN) + zH w (zB w tN) := by omega
  have ecx := clamp_s (i := x) (by omega)
  have ekx : x.toNatClampNeg = xN := by omega
  have s5 := at_run (L := L) (xs := xs) (d := d + 2) (h := (124, I, J, R)) (c := 58) (n := 2401) (fun _ => rfl) (by decide) x
  rw [if_pos ⟨by omega, by omega⟩, ekx] at s5
  have s5' : xEv L xs (d + 2) 39 0 [.ref 58, .int x] [] (124, I, J, R) (some (.int (I 58 xN))) (124, I, J, R) := s5
  obtain ⟨x0, w1, w2, w3, w4⟩ := hP.2.2.2.1 xN xl h0
  have hv0 := yT_V hT0 w1 w2
  obtain ⟨c, hc⟩ : ∃ c, I 58 xN = c := ⟨_, rfl⟩
  rw [hc] at s5' w4 h0
  obtain ⟨ra, hra⟩ : ∃ ra, I 57 11 - a = ra := ⟨_, rfl⟩
  obtain ⟨rb, hrb⟩ : ∃ rb, I 57 12 - b = rb := ⟨_, rfl⟩
  rw [hra] at rA
  rw [hrb] at rB
  have lp : ∀ (f s : Nat) (wb wc wd : Value) (Im : Nat → Nat → Int32), s ≤ f → s < 16 → s &&& TN = s → yM w tN Im → yQ w tN I0 Im → (∀ z, (I 58 z).toInt ≤ (Im 58 z).toInt) → (∀ S, S < 16 → S &&& TN = S → s < S → zV w (zf w tN xN S.testBit) → c.toInt ≤ (Im 58 (zf w tN xN S.testBit)).toInt) → ∃ I' : Nat → Nat → Int32, xEv L xs (d + 3) 89 90 [.ref 57, .int x, .int h, .int t, .int (Int32.ofNat F), .int (Int32.ofNat G), .int (Int32.ofNat TN), .int ra, .int rb, .int c, .int (Int32.ofNat s), wb, wc, wd] [] (124, Im, J, R) none (124, I', J, R) ∧ yM w tN I' ∧ yQ w tN I0 I' ∧ (∀ z, (I 58 z).toInt ≤ (I' 58 z).toInt) ∧ (∀ S, S < 16 → S &&& TN = S → 0 < S → zV w (zf w tN xN S.testBit) → c.toInt ≤ (I' 58 (zf w tN xN S.testBit)).toInt) := by
    intro f
    induction f with
    | zero =>
      intro s wb wc wd Im sf sl sT hMm hPm hup hdone
      have e : s = 0 := by omega
      subst e
      exact ⟨Im, ytf_e hG (by decide), hMm, hPm, hup, hdone⟩
    | succ f ih =>
      intro s wb wc wd Im sf sl sT hMm hPm hup hdone
      by_cases s0 : s = 0
      · subst s0
        exact ⟨Im, ytf_e hG (by decide), hMm, hPm, hup, hdone⟩
      have es := y_i sl
      obtain ⟨n1, n2, n3⟩ := ys_T s sl (by omega) TN Tl
      have st : ∀ n, n < 4 → s.testBit n = true → n < zN w ∧ zt w tN xN n := fun n hn hb => by
        refine (Tt n hn).mp ?_
        rw [← sT, Nat.testBit_and, Bool.and_eq_true] at hb
        exact hb.2
      have next : ∀ (wb' wc' wd' : Value) (Io : Nat → Nat → Int32), yM w tN Io → yQ w tN I0 Io → (∀ z, (I 58 z).toInt ≤ (Io 58 z).toInt) → (∀ z, (Im 58 z).toInt ≤ (Io 58 z).toInt) → (zV w (zf w tN xN s.testBit) → c.toInt ≤ (Io 58 (zf w tN xN s.testBit)).toInt) → ∃ I' : Nat → Nat → Int32, xEv L xs (d + 3) 89 90 [.ref 57, .int x, .int h, .int t, .int (Int32.ofNat F), .int (Int32.ofNat G), .int (Int32.ofNat TN), .int ra, .int rb, .int c, .int ((Int32.ofNat s - 1) &&& Int32.ofNat TN), wb', wc', wd'] [] (124, Io, J, R) none (124, I', J, R) ∧ yM w tN I' ∧ yQ w tN I0 I' ∧ (∀ z, (I 58 z).toInt ≤ (I' 58 z).toInt) ∧ (∀ S, S < 16 → S &&& TN = S → 0 < S → zV w (zf w tN xN S.testBit) → c.toInt ≤ (I' 58 (zf w tN xN S.testBit)).toInt) := by
        intro wb' wc' wd' Io hMo hPo hupo hupm hs
        rw [n1]
        refine ih ((s - 1) &&& TN) wb' wc' wd' Io (by omega) (by omega) n3 hMo hPo hupo (fun S S1 S2 S3 S4 => ?_)
        by_cases ge : S = s
        · rw [ge] at S4 ⊢
          exact hs S4
        · by_cases gt : s < S
          · exact Int.le_trans (hdone S S1 S2 gt S4) (hupm _)
          · have := yd_T s sl (by omega) TN Tl sT S S1 S2 (by omega)
            omega
      have Fs : s &&& F < 16 := ya_lt sl
      have Gs : s &&& G < 16 := ya_lt sl
      obtain ⟨m, t1, em⟩ := ybc_run (L := L) (xs := xs) (d := d + 2) (I := Im) (J := J) (R := R) hG Fs
      obtain ⟨n, t2, en⟩ := ybc_run (L := L) (xs := xs) (d := d + 2) (I := Im) (J := J) (R := R) hG Gs
      rw [← hF, yP_c] at em
      rw [← hGG, yP_c] at en
      obtain ⟨z1, z2, -⟩ := zh_f (x := xN) (S := s.testBit) ka kb kab
      have cb : ∀ r, zc w s.testBit xN r ≤ 4 := fun r => by
        have q : ∀ n, zy w s.testBit xN r n ≤ 1 := fun n => by
          unfold zy
          split <;> omega
        have q0 := q 0
        have q1 := q 1
        have q2 := q 2
        have q3 := q 3
        unfold zc
        omega
      have cA := cb (zA w tN)
      have cB := cb (zB w tN)
      have emn : (m - n).toInt = (zc w s.testBit xN (zA w tN) : Int) - zc w s.testBit xN (zB w tN) := by rw [i_sub (by omega) (by omega), em, en]
      have enm : (-(m - n)).toInt = (zc w s.testBit xN (zB w tN) : Int) - zc w s.testBit xN (zA w tN) := by
        rw [i_ng (by omega), emn]
        omega
      have y1 := yk_T s sl F Fl
      have y2 := yk_T s sl G Gl
      have pos : (Int32.ofNat s).toInt > 0 := by omega
      by_cases g2 : (m - n).toInt > rb.toInt
      · obtain ⟨I', v1, v2⟩ := next (.int (Int32.ofNat s &&& Int32.ofNat F)) (.int (Int32.ofNat s &&& Int32.ofNat G)) (.int (m - n)) Im hMm hPm hup (fun _ => Int.le_refl _) (fun hz => by
          have := hz.2.2 _ kbp
          omega)
        exact ⟨I', ytf_g hG pos (by rw [y1]; exact t1) (by rw [y2]; exact t2) g2 v1, v2⟩
      by_cases g3 : (-(m - n)).toInt > ra.toInt
      · obtain ⟨I', v1, v2⟩ := next (.int (Int32.ofNat s &&& Int32.ofNat F)) (.int (Int32.ofNat s &&& Int32.ofNat G)) (.int (m - n)) Im hMm hPm hup (fun _ => Int.le_refl _) (fun hz => by
          have := hz.2.2 _ kap
          omega)
        exact ⟨I', ytf_h hG pos (by rw [y1]; exact t1) (by rw [y2]; exact t2) (by omega) g3 v1, v2⟩
      have zv : zV w (zf w tN xN s.testBit) := zV_f hK tl hv st (by omega) (by omega)
      obtain ⟨o, t3, eo⟩ := yon_run (L := L) (xs := xs) (d := d + 2) (I := Im) (J := J) (R := R) hG Fs
      obtain ⟨q, t4, eq⟩ := yon_run (L := L) (xs := xs) (d := d + 2) (I := Im) (J := J) (R := R) hG Gs
      have ob := yO_b (s &&& F)
      have qb := yO_b (s &&& G)
      have hMm' := hMm
      obtain ⟨mm1, mm2, -⟩ := hMm
      have xx := yx_of ka kb kab xl st
      rw [hF, hGG] at xx
      have zl := zv.1.1
      have e4 : (4 : Int32).toInt = 4 := by decide
      have eD : (Im 57 10 - Im 57 9).toInt = (zB w tN : Int) - zA w tN := by rw [i_sub (by omega) (by omega), mm1, mm2]
      have eoq : (o - q).toInt = (yO (s &&& F) : Int) - yO (s &&& G) := by rw [i_sub (by omega) (by omega), eo, eq]
      have pb := p_bd (a := (yO (s &&& F) : Int) - yO (s &&& G)) (b := (zB w tN : Int) - zA w tN) (by omega) (by omega) (by omega) (by omega)
      have epr : ((o - q) * (Im 57 10 - Im 57 9)).toInt = ((yO (s &&& F) : Int) - yO (s &&& G)) * ((zB w tN : Int) - zA w tN) := by
        rw [i_mul (by rw [eoq, eD]; omega) (by rw [eoq, eD]; omega), eoq, eD]
      have ey : (x + (o - q) * (Im 57 10 - Im 57 9)).toInt = zf w tN xN s.testBit := by rw [i_add (by rw [epr]; omega) (by rw [epr]; omega), epr, hx, xx]
      have e9 : (4 * Im 57 9).toInt = ((4 * zA w tN : Nat) : Int) := by
        rw [i_mul (by rw [e4]; omega) (by rw [e4]; omega), e4, mm1]
        omega
      have e10 : (4 * Im 57 10).toInt = ((4 * zB w tN : Nat) : Int) := by
        rw [i_mul (by rw [e4]; omega) (by rw [e4]; omega), e4, mm2]
        omega
      have hh' := yHd_f ka kb kab sl st hh e9 e10
      obtain ⟨Io, t5, hA⟩ := yar_run (L := L) (xs := xs) (d := d + 1) (I := Im) (J := J) (R := R) hG hPm.1 (t := t) ey zv hh' h0
      rw [ht] at hA
      have zY1 : zY w tN xN (zf w tN xN s.testBit) := (zY_i hK tl hv).mpr (Or.inr ⟨s.testBit, ⟨hu, (fun k hk => by
        by_cases k4' : k < 4
        · exact st k k4' hk
        · rw [Nat.testBit_lt_two_pow (Nat.lt_of_lt_of_le sl (show 16 ≤ 2 ^ k from Nat.le_trans (by decide) (Nat.pow_le_pow_right (by decide) (show 4 ≤ k by omega))))] at hk
          cases hk), room⟩, rfl, zv⟩)
      obtain ⟨b1, b2, b3⟩ := yQ_a hPm hA zl w1 w2 w4 (zY_t hK tl hv0 w3 zY1)
      obtain ⟨I', v1, v2⟩ := next (.int (Int32.ofNat s &&& Int32.ofNat F)) (.int (Int32.ofNat s &&& Int32.ofNat G)) (.int (m - n)) Io (yM_f hMm' hA.1) b1 (fun z => Int.le_trans (hup z) (b3 z)) b3 (fun _ => b2)
      exact ⟨I', ytf_y hG pos (by rw [y1]; exact t1) (by rw [y2]; exact t2) (by omega) (by omega) (by rw [y1]; exact t3) (by rw [y2]; exact t4) t5 v1, v2⟩
  obtain ⟨I', v1, v2, v3, v4, v5⟩ := lp TN TN xmk xmk xmk I (Nat.le_refl _) Tl (by rw [Nat.and_self]) ⟨m1, m2, m3, m4, m5, m6⟩ hP (fun _ => Int.le_refl _) (fun S S1 S2 S3 _ => by
    have : S &&& TN ≤ TN := Nat.and_le_right
    omega)
  refine ⟨I', ytf_s hG s1 s2 s3 s4 (by rw [eT, eTi]; omega) (by omega) s5' (by rw [eT, hra, hrb]; exact v1), v2, v3, v4, fun y hy => ?_⟩
  have lx : c.toInt ≤ (I' 58 xN).toInt := by rw [← hc]; exact v4 xN
  rw [hc]
  rcases (zY_i hK tl hv).mp hy with e | ⟨S, ⟨-, z1, -⟩, z2, z3⟩
  · rw [e]
    exact lx
  · have es : zf w tN xN S = zf w tN xN (y4 S).testBit := zm_c fun n hn => by rw [y4_t S n hn]
    rw [es] at z2
    by_cases g : y4 S = 0
    · have e : y = xN := by
        rw [z2, g]
        exact zf_0 xl (fun n _ => Nat.zero_testBit n)
      rw [e]
      exact lx
    · rw [z2] at z3 ⊢
      refine v5 (y4 S) (y4_lt S) (ye_T _ (ya_lt (y4_lt S)) _ (y4_lt S) (fun n hn => ?_)) (by omega) z3
      rw [Nat.testBit_and, y4_t S n hn]
      cases e : S n with
      | false => rfl
      | true =>
        rw [(Tt n hn).mpr (z1 n e)]
        rfl
