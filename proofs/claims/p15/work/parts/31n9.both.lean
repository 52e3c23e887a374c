theorem wf_u {w : zW} {t : Nat} {I : Nat → Nat → Int32} (h : yW w t I) {S p : Nat} (hS : S < 16) (hp : p < 7) : -1 ≤ (I 61 (S * 7 + p)).toInt ∧ (I 61 (S * 7 + p)).toInt ≤ 64 ∨ t > 64 := by
  rcases h.2 S p hS hp with g | ⟨s, y, g1, g2, g3, g4⟩
  · exact Or.inl (by omega)
  · by_cases e : t > 64
    · exact Or.inr e
    · exact Or.inl (by omega)
theorem z16_T : ∀ a, a < 16 → ∀ u, u < 16 → ((Int32.ofNat a &&& Int32.ofNat u) = Int32.ofNat u ↔ ∀ n, n < 4 → u.testBit n = true → a.testBit n = true) := by decide +kernel
theorem z16_S : ∀ k, k ≤ 4 → ((1 : Int32) <<< (Int32.ofNat k &&& 31)).toInt = ((2 ^ k : Nat) : Int) ∧ 2 ^ k ≤ 16 := by
  intro k hk
  have e : k = 0 ∨ k = 1 ∨ k = 2 ∨ k = 3 ∨ k = 4 := by omega
  rcases e with rfl | rfl | rfl | rfl | rfl <;> decide +kernel
theorem z16_B : ∀ k, k ≤ 4 → ∀ u, u < 2 ^ k → ∀ n, n < 4 → k ≤ n → u.testBit n = false := by
  intro k hk u hu n _ hn
  exact Nat.testBit_lt_two_pow (Nat.lt_of_lt_of_le hu (Nat.pow_le_pow_right (by decide) hn))
/-- the least time of a set, by the class -/
theorem yft_run {L : Nat} {xs : Nat → Int32} {d : Nat} {I : Nat → Nat → Int32} {J : Nat → Nat → Int64} {R : Nat → Nat → Nat} (hG : aGd R) {w : zW} (hK : zK w) (hW : yW w (zT w) I) {u q : Int32} {uN qN : Nat} (hu : u = Int32.ofNat uN) (u16 : uN < 16) (hun : ∀ n, n < 4 → uN.testBit n = true → n < zN w) (hq : q.toInt = qN) (q7 : qN < 7) :
    ∃ r : Int32, xEv L xs (d + 1) 94 0 [.ref 57, .int u, .int q, xmk, xmk] [] (124, I, J, R) (some (.int r)) (124, I, J, R) ∧ ((r.toInt = 64 ∧ ∀ s, s ≤ zT w → ¬ zht w u qN s) ∨ ∃ s, s ≤ zT w ∧ r.toInt = (s : Int) - 1 ∧ zht w u qN s ∧ ∀ s', s' < s → ¬ zht w u qN s') := by
  have k4 := hK.1
  have k64 := hK.2.2.1
  have e7 : (7 : Int32).toInt = 7 := by decide
  -- what the set asks of a state
  have tbu : ∀ n, n < 4 → tb u n = uN.testBit n := fun n hn => by rw [hu, yt_o u16 (by omega), decide_eq_true hn, Bool.true_and]
  have ask : ∀ y, (∀ n, n < zN w → tb u n = true → zd y n = qN) ↔ ∀ n, n < 4 → uN.testBit n = true → (yS w y qN).testBit n = true := fun y => by
    constructor
    · intro h n hn hb
      have hl := hun n hn hb
      rw [yS_t w y qN hn, decide_eq_true hl, decide_eq_true (h n hl (by rw [tbu n hn]; exact hb))]
      rfl
    · intro h n hn hb
      rw [tbu n (by omega)] at hb
      have z := h n (by omega) hb
      rw [yS_t w y qN (by omega), Bool.and_eq_true] at z
      exact of_decide_eq_true z.2
  have bnd : ∀ S, S < 16 → -1 ≤ (I 61 (S * 7 + qN)).toInt ∧ (I 61 (S * 7 + qN)).toInt ≤ 64 := fun S hS => by
    rcases wf_u hW hS q7 with h | h
    · exact h
    · omega
  have lp : ∀ (f k : Nat) (m l : Int32), k + f = 16 → m.toInt = k → l.toInt ≤ 64 → (∀ a, a < k → (∀ n, n < 4 → uN.testBit n = true → a.testBit n = true) → l.toInt ≤ (I 61 (a * 7 + qN)).toInt) → (l.toInt = 64 ∨ ∃ a, a < 16 ∧ (∀ n, n < 4 → uN.testBit n = true → a.testBit n = true) ∧ l.toInt = (I 61 (a * 7 + qN)).toInt) → ∃ r : Int32, xEv L xs (d + 1) 94 6 [.ref 57, .int u, .int q, .int l, .int m] [] (124, I, J, R) (some (.int r)) (124, I, J, R) ∧ r.toInt ≤ 64 ∧ (∀ a, a < 16 → (∀ n, n < 4 → uN.testBit n = true → a.testBit n = true) → r.toInt ≤ (I 61 (a * 7 + qN)).toInt) ∧ (r.toInt = 64 ∨ ∃ a, a < 16 ∧ (∀ n, n < 4 → uN.testBit n = true → a.testBit n = true) ∧ r.toInt = (I 61 (a * 7 + qN)).toInt) := by
    intro f
    induction f with
    | zero =>
      intro k m l hk em h64 hm ha
      have e : k = 16 := by omega
      rw [e] at hm
      exact ⟨l, yft_e hG (by omega), h64, hm, ha⟩
    | succ f ih =>
      intro k m l hk em h64 hm ha
      have em' : (m + 1).toInt = (k + 1 : Nat) := by rw [i_add1 (by omega)]; omega
      have e1 : m = Int32.ofNat k := k_small em (by omega)
      have tab := z16_T k (by omega) uN u16
      rw [← e1, ← hu] at tab
      by_cases g : m &&& u = u
      · have sup := tab.mp g
        have m7 : (m * 7).toInt = ((k * 7 : Nat) : Int) := by
          rw [i_mul (by rw [e7]; omega) (by rw [e7]; omega), e7, em]
          omega
        have ei : (m * 7 + q).toInt = ((k * 7 + qN : Nat) : Int) := by
          rw [i_add (by omega) (by omega), m7, hq]
          omega
        obtain ⟨ix, hix⟩ : ∃ ix, m * 7 + q = ix := ⟨_, rfl⟩
        rw [hix] at ei
        have eci := clamp_s (i := ix) (by omega)
        have r2 := at_run (L := L) (xs := xs) (d := d) (h := (124, I, J, R)) (c := 61) (n := 112) (fun _ => rfl) (by decide) ix
        rw [if_pos ⟨by omega, by omega⟩, show ix.toNatClampNeg = k * 7 + qN by omega] at r2
        have r2' : xEv L xs d 39 0 [.ref 61, .int ix] [] (124, I, J, R) (some (.int (I 61 (k * 7 + qN)))) (124, I, J, R) := r2
        obtain ⟨z, hz⟩ : ∃ z, (if I 61 (k * 7 + qN) < l then I 61 (k * 7 + qN) else l) = z := ⟨_, rfl⟩
        have zz : (z = I 61 (k * 7 + qN) ∧ (I 61 (k * 7 + qN)).toInt < l.toInt) ∨ (z = l ∧ l.toInt ≤ (I 61 (k * 7 + qN)).toInt) := by
          by_cases g : I 61 (k * 7 + qN) < l
          · rw [if_pos g] at hz
            exact Or.inl ⟨hz.symm, Int32.lt_iff_toInt_lt.mp g⟩
          · rw [if_neg g] at hz
            exact Or.inr ⟨hz.symm, Classical.byContradiction fun n => g (Int32.lt_iff_toInt_lt.mpr (by omega))⟩
        obtain ⟨r, z1, z2⟩ := ih (k + 1) (m + 1) z (by omega) em' (by
          rcases zz with ⟨e, b⟩ | ⟨e, b⟩
          · rw [e]; omega
          · rw [e]; omega) (fun a h1 h2 => by
          by_cases e : a = k
          · rw [e]
            rcases zz with ⟨e', b⟩ | ⟨e', b⟩
            · rw [e']; exact Int.le_refl _
            · rw [e']; exact b
          · have o := hm a (by omega) h2
            rcases zz with ⟨e', b⟩ | ⟨e', b⟩
            · rw [e']; omega
            · rw [e']; exact o) (by
          rcases zz with ⟨e, b⟩ | ⟨e, b⟩
          · rw [e]; exact Or.inr ⟨k, by omega, sup, rfl⟩
          · rw [e]; exact ha)
        exact ⟨r, yft_y hG (by omega) (by rw [g]) (by rw [hix]; exact r2') (by rw [hz]; exact z1), z2⟩
      · obtain ⟨r, z1, z2⟩ := ih (k + 1) (m + 1) l (by omega) em' h64 (fun a h1 h2 => by
          by_cases e : a = k
          · rw [e] at h2
            exact absurd (tab.mpr h2) g
          · exact hm a (by omega) h2) ha
        exact ⟨r, yft_n hG (by omega) (fun e => g (Int32.toInt_inj.mp e)) z1, z2⟩
  obtain ⟨r, z1, z2, z3, z4⟩ := lp 16 0 0 64 (by omega) (by decide) (by decide) (fun a h => absurd h (by omega)) (Or.inl (by decide))
  refine ⟨r, yft_s hG z1, ?_⟩
  -- every state that has all is behind the least
  have low : ∀ s y, s ≤ zT w → zr w s y → (∀ n, n < zN w → tb u n = true → zd y n = qN) → r.toInt ≤ (s : Int) - 1 := fun s y hs hr hy =>
    Int.le_trans (z3 (yS w y qN) (yS_lt w y qN) ((ask y).mp hy)) (hW.1 s y qN hs hr q7)
  by_cases g : r.toInt = 64
  · refine Or.inl ⟨g, fun s hs => ?_⟩
    rintro ⟨y, h1, h2⟩
    have := low s y hs h1 h2
    omega
  · rcases z4 with h | ⟨a, a1, a2, a3⟩
    · exact absurd h g
    · rcases hW.2 a qN a1 q7 with h | ⟨s, y, b1, b2, b3, b4⟩
      · omega
      · refine Or.inr ⟨s, b1, by omega, ⟨y, b2, (ask y).mpr (by rw [b3]; exact a2)⟩, fun s' hs' => ?_⟩
        rintro ⟨y', h1, h2⟩
        have := low s' y' (by omega) h1 h2
        omega
/-- what is known of the village is so -/
def yPW_3 (I : Nat → Nat → Int32) : Prop := zx (zk (zWf_3 I) (zT (zWf_3 I)) (zE (zWf_3 I))) (I 57 6).toInt ∧ yW (zWf_3 I) (zT (zWf_3 I)) I
theorem zWf_e_3 {I I' : Nat → Nat → Int32} (h1 : I' 3 16 = I 3 16) (h2 : I' 3 14 = I 3 14) (h3 : I' 17 5 = I 17 5) (h : ∀ c, (c = 20 ∨ c = 21 ∨ c = 22 ∨ c = 5 ∨ c = 15 ∨ c = 11 ∨ c = 12 ∨ c = 14 ∨ c = 16) → ∀ k, I' c k = I c k) : zWf_3 I' = zWf_3 I := by
  have e : ∀ c, (c = 20 ∨ c = 21 ∨ c = 22 ∨ c = 5 ∨ c = 15 ∨ c = 11 ∨ c = 12 ∨ c = 14 ∨ c = 16) → I' c = I c := fun c hc => funext fun k => h c hc k
  unfold zWf_3
  rw [h1, h2, h3, e 20 (by omega), e 21 (by omega), e 22 (by omega), e 5 (by omega), e 15 (by omega), e 11 (by omega), e 12 (by omega), e 14 (by omega), e 16 (by omega)]
theorem zWf_c_3 {I I' : Nat → Nat → Int32} (h : ∀ c k, c < 57 → I' c k = I c k) : zWf_3 I' = zWf_3 I := zWf_e_3 (h _ _ (by omega)) (h _ _ (by omega)) (h _ _ (by omega)) (fun c hc k => h c k (by omega))
/-- known behind working out -/
theorem ywk_3 {L : Nat} {xs : Nat → Int32} {d : Nat} {I : Nat → Nat → Int32} {J : Nat → Nat → Int64} {R : Nat → Nat → Nat} {Ir : Nat → Nat → Int32} (hG : aGd R) {np nm nn : Nat} {l : List (Nat × Nat)} (hV : VR_3 np nm nn l I Ir) (hh : hrS nm l Ir) (h90 : ∀ q, q < 7 → (Ir 90 q).toInt ≤ 3) (h99 : ∀ q, q < 4 → 0 ≤ (Ir 99 q).toInt ∧ (Ir 99 q).toInt ≤ 99) (hP : I 57 8 = 0 ∨ (I 57 8 = 1 ∧ yPW_3 I)) : ∃ I' : Nat → Nat → Int32, xEv L xs (d + 5) 84 0 [.ref 57, .ref 3, xmk, xmk, xmk] [] (124, I, J, R) none (124, I', J, R) ∧ I' 57 8 = 1 ∧ yPW_3 I' ∧ ∀ c k, c < 57 → I' c k = I c k := by
  obtain ⟨-, m1, m2, m3, m4, m5, m6, -⟩ := zmk_3 hV hh h90 h99
  rcases hP with h | ⟨h, hP⟩
  · obtain ⟨I', z1, z2, z3, z4, z5⟩ := ywo_run_3 (L := L) (xs := xs) (d := d) (I := I) (J := J) hG m1 m2 m3 m4 m5 m6 (by rw [h]; decide)
    refine ⟨I', z1, z2, ?_, z5⟩
    unfold yPW_3
    rw [zWf_c_3 z5]
    exact ⟨z3, z4⟩
  · exact ⟨I, ywo_k_3 hG (by rw [h]; decide), h, hP, fun _ _ _ => rfl⟩
/-- all, of both -/
theorem alE_3 {L : Nat} {xs : Nat → Int32} {d d' : Nat} {I Ir : Nat → Nat → Int32} {J Jr : Nat → Nat → Int64} {R Rr : Nat → Nat → Nat} (hG : aGd R) (hGr : aGd Rr) (h8 : R 0 8 = 4) {np nm nn : Nat} {l : List (Nat × Nat)} (hV : VR_3 np nm nn l I Ir) (hVI : VR_3 np nm nn l I I) (hh : hrS nm l Ir) (h90 : ∀ q, q < 7 → (Ir 90 q).toInt ≤ 3) (h99 : ∀ q, q < 4 → 0 ≤ (Ir 99 q).toInt ∧ (Ir 99 q).toInt ≤ 99) (h99I : ∀ q, q < 4 → 0 ≤ (I 99 q).toInt ∧ (I 99 q).toInt ≤ 99) (hP : I 57 8 = 0 ∨ (I 57 8 = 1 ∧ yPW_3 I)) (k : Int32) :
    (k.toInt = 0 ∧ ∃ (r : Int32) (I' Ir' : Nat → Nat → Int32), xEv L xs (d + 6) 83 0 [.ref 0, .int k] [] (124, I, J, R) (some (.int r)) (124, I', J, R) ∧ xEv L xs (d' + 9) 198 0 [.ref 86, .int k] [] (124, Ir, Jr, Rr) (some (.int r)) (124, Ir', Jr, Rr) ∧ I' 57 8 = 1 ∧ yPW_3 I' ∧ ∀ c k, c < 57 → I' c k = I c k) ∨
    (k.toInt ≠ 0 ∧ ∃ r : Int32, xEv L xs (d + 6) 83 0 [.ref 0, .int k] [] (124, I, J, R) (some (.int r)) (124, I, J, R) ∧ xEv L xs (d' + 9) 198 0 [.ref 86, .int k] [] (124, I, J, R) (some (.int r)) (124, I, J, R)) := by
  by_cases g0 : k.toInt = 0
  · obtain ⟨-, m1, m2, m3, m4, m5, m6, m7⟩ := zmk_3 hV hh h90 h99
    obtain ⟨I', z1, z2, z3, z4⟩ := ywk_3 (L := L) (xs := xs) (d := d) (I := I) (J := J) hG hV hh h90 h99 hP
    obtain ⟨r, Ir', y1, y2⟩ := zaW_run (L := L) (xs := xs) (d := d') (I := Ir) (J := Jr) hGr m1 m7
    have e := z3.1
    rw [zWf_c_3 z4] at e
    have er : r = I' 57 6 := Int32.toInt_inj.mp (zx_u y2 e)
    rw [er] at y1
    exact Or.inl ⟨g0, I' 57 6, I', Ir', yal_0_3 hG g0 h8 z1, zal_0 hGr g0 y1, z2, z3, z4⟩
  refine Or.inr ⟨g0, ?_⟩
  by_cases g1 : k.toInt = 1
  rotate_left
  · exact ⟨-2, yal_x_3 hG ⟨g0, g1⟩, zal_x hG g0 g1⟩
  have hV0 := hVI
  obtain ⟨⟨p1, p2, p3⟩, p4, p5, p6, ⟨q1, q2⟩, ⟨q3, q4⟩, ⟨q5, q6⟩, q7, q8, q9, ⟨q10, q11⟩, q12, q13, q14, q15, q16, q17⟩ := hVI
  have at1 : ∀ (c n : Nat) (i : Int32) (iN : Nat), (∀ g : FieldType → Nat → Option xR, xarr (124, I, J, R) c g = g .int n) → n < 2147483648 → i.toInt = iN → iN < n → ∀ d, xEv L xs d 39 0 [.ref c, .int i] [] (124, I, J, R) (some (.int (I c iN))) (124, I, J, R) := by
    intro c n i iN ho hn ei hi d
    have ec := clamp_s (i := i) (by omega)
    have h4 := at_run (L := L) (xs := xs) (d := d) (h := (124, I, J, R)) (c := c) (n := n) ho hn i
    rw [if_pos ⟨by omega, by omega⟩, show i.toNatClampNeg = iN by omega] at h4
    exact h4
  have lp : ∀ (f kN : Nat) (n s : Int32) (w3 : Value), kN + f = nn → n.toInt = kN → 0 ≤ s.toInt → s.toInt ≤ 99 * kN → ∃ r : Int32, xEv L xs (d + 5) 92 4 [.ref 0, .int s, .int n, w3] [] (124, I, J, R) (some (.int r)) (124, I, J, R) ∧ xEv L xs (d' + 8) 207 4 [.ref 86, .int s, .int n] [] (124, I, J, R) (some (.int r)) (124, I, J, R) := by
    intro f
    induction f with
    | zero =>
      intro kN n s w3 hk en s0 sb
      exact ⟨s, ywa_e_3 hG h8 (by omega), zap_e hG (by omega)⟩
    | succ f ih =>
      intro kN n s w3 hk en s0 sb
      have en' : (n + 1).toInt = (kN + 1 : Nat) := by rw [i_add1 (by omega)]; omega
      have ec := clamp_s (i := n) (by omega)
      have ek : n.toNatClampNeg = kN := by omega
      obtain ⟨o1, o2, -, o4, o5, o6⟩ := q9 kN (by omega)
      obtain ⟨f1, f2, f3, f4, f5⟩ := q16 kN (by omega)
      have dl := q14 kN (by omega)
      have db : dlN l (I 13 kN).toInt ≤ l.length := List.length_filter_le _ _
      have e0 : (0 : Int32).toInt = 0 := by decide
      obtain ⟨o, x1, x2, x3⟩ := soo_3 (L := L) (xs := xs) (d := d + 2) (d' := d' + 6) (I := I) (J := J) hG hV0 (b := I 15 kN) (fr := I 11 kN) (to := I 12 kN) (tm := 0) ⟨f1, f2⟩ ⟨f3, f4⟩ ⟨by rw [e0]; omega, by rw [e0]; omega⟩ f5
      have r1 := at1 15 4 n kN (fun _ => rfl) (by decide) en (by omega) (d + 4)
      have r2 := at1 11 4 n kN (fun _ => rfl) (by decide) en (by omega) (d + 4)
      have r3 := at1 12 4 n kN (fun _ => rfl) (by decide) en (by omega) (d + 4)
      have r4 := at1 16 4 n kN (fun _ => rfl) (by decide) en (by omega) (d + 4)
      have r5 := at1 14 4 n kN (fun _ => rfl) (by decide) en (by omega) (d + 4)
      have x2' : xEv L xs (d' + 7) 185 0 [.ref 86, .int (I 100 n.toNatClampNeg), .int (I 96 n.toNatClampNeg), .int (I 97 n.toNatClampNeg), .int 0, xmk, xmk, xmk, xmk, xmk] [] (124, I, J, R) (some (.int (if o = -1 then I 86 26 else o))) (124, I, J, R) := by
        rw [ek, ← o1, ← o2, ← o5]
        exact x2
      have b99 := h99I kN (by omega)
      have em : (-1 : Int32).toInt = -1 := by decide
      by_cases g : o = -1
      · rw [if_pos g] at x2'
        obtain ⟨r, y1, y2⟩ := ih (kN + 1) (n + 1) s (.int o) (by omega) en' s0 (by omega)
        exact ⟨r, ywa_0_3 hG h8 (by omega) r1 r2 r3 x1 (by rw [g]; decide) y1, zap_n hG (by omega) (by omega) (by omega) (by omega) (by omega) (by omega) (by omega) x2' (by omega) (by omega) (by rw [ek, ← o6]; omega) (by rw [Int32.add_zero]; exact y2)⟩
      · rw [if_neg g] at x2'
        have x3' : 0 ≤ o.toInt ∧ o.toInt < l.length := by
          rcases x3 with h | h
          · exact absurd h g
          · exact h
        by_cases g2 : o.toInt < (I 16 kN).toInt
        · have ew : (s + I 14 kN).toInt = s.toInt + (I 14 kN).toInt := i_add (by rw [o4]; omega) (by rw [o4]; omega)
          obtain ⟨r, y1, y2⟩ := ih (kN + 1) (n + 1) (s + I 14 kN) (.int o) (by omega) en' (by rw [ew, o4]; omega) (by rw [ew, o4]; omega)
          exact ⟨r, ywa_2_3 hG h8 (by omega) r1 r2 r3 x1 (by omega) r4 g2 r5 y1, zap_y hG (by omega) (by omega) (by omega) (by omega) (by omega) (by omega) (by omega) x2' (by omega) (by omega) (by rw [ek, ← o6]; exact g2) (by omega) (by omega) (by rw [ek, ← o4]; exact y2)⟩
        · obtain ⟨r, y1, y2⟩ := ih (kN + 1) (n + 1) s (.int o) (by omega) en' s0 (by omega)
          exact ⟨r, ywa_1_3 hG h8 (by omega) r1 r2 r3 x1 (by omega) r4 (by omega) y1, zap_n hG (by omega) (by omega) (by omega) (by omega) (by omega) (by omega) (by omega) x2' (by omega) (by omega) (by rw [ek, ← o6]; omega) (by rw [Int32.add_zero]; exact y2)⟩
  obtain ⟨r, y1, y2⟩ := lp nn 0 0 0 xmk (by omega) (by decide) (by decide) (by decide)
  exact ⟨r, yal_1_3 hG g1 (ywa_s_3 hG y1), zal_1 hG g0 g1 (zap_s hG y2)⟩
/-- together, of both -/
theorem toE_3 {L : Nat} {xs : Nat → Int32} {d d' : Nat} {I Ir : Nat → Nat → Int32} {J Jr : Nat → Nat → Int64} {R Rr : Nat → Nat → Nat} (hG : aGd R) (hGr : aGd Rr) (h8 : R 0 8 = 4) {np nm nn : Nat} {l : List (Nat × Nat)} (hV : VR_3 np nm nn l I Ir) (hh : hrS nm l Ir) (h90 : ∀ q, q < 7 → (Ir 90 q).toInt ≤ 3) (h99 : ∀ q, q < 4 → 0 ≤ (Ir 99 q).toInt ∧ (Ir 99 q).toInt ≤ 99) (hP : I 57 8 = 0 ∨ (I 57 8 = 1 ∧ yPW_3 I)) (u q : Int32) :
    ∃ (r : Int32) (I' Ir' : Nat → Nat → Int32), xEv L xs (d + 6) 93 0 [.ref 0, .int u, .int q, xmk] [] (124, I, J, R) (some (.int r)) (124, I', J, R) ∧ xEv L xs (d' + 8) 208 0 [.ref 86, .int u, .int q, xmk, xmk, xmk, xmk, xmk] [] (124, Ir, Jr, Rr) (some (.int r)) (124, Ir', Jr, Rr) ∧ (I' = I ∨ (I' 57 8 = 1 ∧ yPW_3 I' ∧ ∀ c k, c < 57 → I' c k = I c k)) := by
  obtain ⟨⟨e1, e2, e3⟩, m1, m2, m3, m4, m5, m6, m7⟩ := zmk_3 hV hh h90 h99
  have hV0 := hV
  obtain ⟨⟨p1, p2, p3⟩, p4, p5, p6, ⟨q1, q2⟩, ⟨q3, q4⟩, ⟨q5, q6⟩, q7, q8, q9, ⟨q10, q11⟩, q12, q13, q14, q15, q16, q17⟩ := hV
  have e16 : I 3 16 = Ir 88 2 := Int32.toInt_inj.mp (by rw [q5, q6])
  have ref := zto_run (L := L) (xs := xs) (d := d') (I := Ir) (J := Jr) hGr m1 m2 m7 u q
  rw [← e16] at ref
  by_cases gu : u.toInt < 1
  · rcases ref with ⟨-, y⟩ | ⟨h, -⟩
    · exact ⟨-2, I, Ir, yto_0_3 hG gu, y, Or.inl rfl⟩
    · omega
  by_cases gv : u.toInt ≥ (1 <<< ((I 3 16) &&& 31)).toInt
  · rcases ref with ⟨-, y⟩ | ⟨h, -⟩
    · exact ⟨-2, I, Ir, yto_1_3 hG (by omega) h8 gv, y, Or.inl rfl⟩
    · omega
  rcases hp_run_3 (L := L) (xs := xs) (d := d + 5) (I := I) (J := J) hG q1 q with ⟨hq, xq⟩ | ⟨hq, xq⟩
  rotate_left
  · rcases ref with ⟨-, y⟩ | ⟨h, -⟩
    · exact ⟨-2, I, Ir, yto_2_3 hG (by omega) h8 (by omega) xq, y, Or.inl rfl⟩
    · exact absurd ⟨h.2.2.1, by omega⟩ hq
  rcases ref with ⟨h, -⟩ | ⟨-, r, Ir', y, hr⟩
  · exact absurd ⟨by omega, by omega, hq.1, by omega⟩ h
  obtain ⟨I', z1, z2, z3, z4⟩ := ywk_3 (L := L) (xs := xs) (d := d) (I := I) (J := J) hG hV0 hh h90 h99 hP
  have hW := z3.2
  rw [zWf_c_3 z4] at hW
  have ec := clamp_s (i := q) hq.1
  obtain ⟨qN, hqN⟩ : ∃ qN, q.toNatClampNeg = qN := ⟨_, rfl⟩
  rw [hqN] at hr
  have e16N : I 3 16 = Int32.ofNat nn := k_small q5 (by omega)
  obtain ⟨s1, s2⟩ := z16_S nn p3
  rw [e16N, s1] at gv
  obtain ⟨uN, huN⟩ := Int.eq_ofNat_of_zero_le (show 0 ≤ u.toInt by omega)
  have hu16 : u = Int32.ofNat uN := k_small huN (by omega)
  obtain ⟨o, x1, x2⟩ := yft_run (L := L) (xs := xs) (d := d + 4) (I := I') (J := J) (R := R) hG m1 hW (u := u) (q := q) (uN := uN) (qN := qN) hu16 (by omega) (fun n hn hb => Classical.byContradiction fun g => by
    rw [z16_B nn p3 uN (by omega) n hn (by omega)] at hb
    cases hb) (by omega) (by omega)
  have em : (-1 : Int32).toInt = -1 := by decide
  have k64 := m1.2.2.1
  rcases x2 with ⟨b1, b2⟩ | ⟨s, b1, b2, b3, b4⟩
  · have er : r = -1 := by
      rcases hr with ⟨h, -⟩ | ⟨-, ⟨h, -⟩ | ⟨t, t1, -, t3, -⟩⟩
      · exact absurd h (b2 0 (Nat.zero_le _))
      · exact h
      · exact absurd t3 (b2 (t + 1) t1)
    rw [er] at y
    exact ⟨-1, I', Ir', yto_n_3 hG (by omega) h8 (by rw [e16N, s1]; omega) xq z1 x1 (by omega) b1, y, Or.inr ⟨z2, z3, z4⟩⟩
  · by_cases gs : s = 0
    · have er : r = -4 := by
        rcases hr with ⟨-, h⟩ | ⟨h, -⟩
        · exact h
        · rw [gs] at b3
          exact absurd b3 h
      rw [er] at y
      exact ⟨-4, I', Ir', yto_s_3 hG (by omega) h8 (by rw [e16N, s1]; omega) xq z1 x1 (by omega), y, Or.inr ⟨z2, z3, z4⟩⟩
    · obtain ⟨s', hs'⟩ : ∃ s', s = s' + 1 := ⟨s - 1, by omega⟩
      have er : r = o := by
        refine Int32.toInt_inj.mp ?_
        rcases hr with ⟨h, -⟩ | ⟨-, ⟨-, h⟩ | ⟨t, t1, t2, t3, t4⟩⟩
        · exact absurd h (b4 0 (by omega))
        · rw [hs'] at b3
          exact absurd b3 (h s' (by omega))
        · have c1 : ¬ t + 1 < s := fun h => b4 (t + 1) h t3
          have c2 : ¬ s' < t := fun h => by
            rw [hs'] at b3
            exact t4 s' h b3
          omega
      rw [er] at y
      exact ⟨o, I', Ir', yto_y_3 hG (by omega) h8 (by rw [e16N, s1]; omega) xq z1 x1 (by omega) (by omega), y, Or.inr ⟨z2, z3, z4⟩⟩
/-- what is known of the village is so -/
def yPW_23 (I : Nat → Nat → Int32) : Prop := zx (zk (zWf_23 I) (zT (zWf_23 I)) (zE (zWf_23 I))) (I 57 6).toInt ∧ yW (zWf_23 I) (zT (zWf_23 I)) I
theorem zWf_e_23 {I I' : Nat → Nat → Int32} (h1 : I' 23 16 = I 23 16) (h2 : I' 23 14 = I 23 14) (h3 : I' 37 5 = I 37 5) (h : ∀ c, (c = 40 ∨ c = 41 ∨ c = 42 ∨ c = 25 ∨ c = 35 ∨ c = 31 ∨ c = 32 ∨ c = 34 ∨ c = 36) → ∀ k, I' c k = I c k) : zWf_23 I' = zWf_23 I := by
  have e : ∀ c, (c = 40 ∨ c = 41 ∨ c = 42 ∨ c = 25 ∨ c = 35 ∨ c = 31 ∨ c = 32 ∨ c = 34 ∨ c = 36) → I' c = I c := fun c hc => funext fun k => h c hc k
  unfold zWf_23
  rw [h1, h2, h3, e 40 (by omega), e 41 (by omega), e 42 (by omega), e 25 (by omega), e 35 (by omega), e 31 (by omega), e 32 (by omega), e 34 (by omega), e 36 (by omega)]
theorem zWf_c_23 {I I' : Nat → Nat → Int32} (h : ∀ c k, c < 57 → I' c k = I c k) : zWf_23 I' = zWf_23 I := zWf_e_23 (h _ _ (by omega)) (h _ _ (by omega)) (h _ _ (by omega)) (fun c hc k => h c k (by omega))
/-- known behind working out -/
theorem ywk_23 {L : Nat} {xs : Nat → Int32} {d : Nat} {I : Nat → Nat → Int32} {J : Nat → Nat → Int64} {R : Nat → Nat → Nat} {Ir : Nat → Nat → Int32} (hG : aGd R) {np nm nn : Nat} {l : List (Nat × Nat)} (hV : VR_23 np nm nn l I Ir) (hh : hrS nm l Ir) (h90 : ∀ q, q < 7 → (Ir 90 q).toInt ≤ 3) (h99 : ∀ q, q < 4 → 0 ≤ (Ir 99 q).toInt ∧ (Ir 99 q).toInt ≤ 99) (hP : I 57 8 = 0 ∨ (I 57 8 = 1 ∧ yPW_23 I)) : ∃ I' : Nat → Nat → Int32, xEv L xs (d + 5) 84 0 [.ref 57, .ref 23, xmk, xmk, xmk] [] (124, I, J, R) none (124, I', J, R) ∧ I' 57 8 = 1 ∧ yPW_23 I' ∧ ∀ c k, c < 57 → I' c k = I c k := by
  obtain ⟨-, m1, m2, m3, m4, m5, m6, -⟩ := zmk_23 hV hh h90 h99
  rcases hP with h | ⟨h, hP⟩
  · obtain ⟨I', z1, z2, z3, z4, z5⟩ := ywo_run_23 (L := L) (xs := xs) (d := d) (I := I) (J := J) hG m1 m2 m3 m4 m5 m6 (by rw [h]; decide)
    refine ⟨I', z1, z2, ?_, z5⟩
    unfold yPW_23
    rw [zWf_c_23 z5]
    exact ⟨z3, z4⟩
  · exact ⟨I, ywo_k_23 hG (by rw [h]; decide), h, hP, fun _ _ _ => rfl⟩
/-- all, of both -/
theorem alE_23 {L : Nat} {xs : Nat → Int32} {d d' : Nat} {I Ir : Nat → Nat → Int32} {J Jr : Nat → Nat → Int64} {R Rr : Nat → Nat → Nat} (hG : aGd R) (hGr : aGd Rr) (h8 : R 0 8 = 24) {np nm nn : Nat} {l : List (Nat × Nat)} (hV : VR_23 np nm nn l I Ir) (hVI : VR_23 np nm nn l I I) (hh : hrS nm l Ir) (h90 : ∀ q, q < 7 → (Ir 90 q).toInt ≤ 3) (h99 : ∀ q, q < 4 → 0 ≤ (Ir 99 q).toInt ∧ (Ir 99 q).toInt ≤ 99) (h99I : ∀ q, q < 4 → 0 ≤ (I 99 q).toInt ∧ (I 99 q).toInt ≤ 99) (hP : I 57 8 = 0 ∨ (I 57 8 = 1 ∧ yPW_23 I)) (k : Int32) :
    (k.toInt = 0 ∧ ∃ (r : Int32) (I' Ir' : Nat → Nat → Int32), xEv L xs (d + 6) 83 0 [.ref 0, .int k] [] (124, I, J, R) (some (.int r)) (124, I', J, R) ∧ xEv L xs (d' + 9) 198 0 [.ref 86, .int k] [] (124, Ir, Jr, Rr) (some (.int r)) (124, Ir', Jr, Rr) ∧ I' 57 8 = 1 ∧ yPW_23 I' ∧ ∀ c k, c < 57 → I' c k = I c k) ∨
    (k.toInt ≠ 0 ∧ ∃ r : Int32, xEv L xs (d + 6) 83 0 [.ref 0, .int k] [] (124, I, J, R) (some (.int r)) (124, I, J, R) ∧ xEv L xs (d' + 9) 198 0 [.ref 86, .int k] [] (124, I, J, R) (some (.int r)) (124, I, J, R)) := by
  by_cases g0 : k.toInt = 0
  · obtain ⟨-, m1, m2, m3, m4, m5, m6, m7⟩ := zmk_23 hV hh h90 h99
    obtain ⟨I', z1, z2, z3, z4⟩ := ywk_23 (L := L) (xs := xs) (d := d) (I := I) (J := J) hG hV hh h90 h99 hP
    obtain ⟨r, Ir', y1, y2⟩ := zaW_run (L := L) (xs := xs) (d := d') (I := Ir) (J := Jr) hGr m1 m7
    have e := z3.1
    rw [zWf_c_23 z4] at e
    have er : r = I' 57 6 := Int32.toInt_inj.mp (zx_u y2 e)
    rw [er] at y1
    exact Or.inl ⟨g0, I' 57 6, I', Ir', yal_0_23 hG g0 h8 z1, zal_0 hGr g0 y1, z2, z3, z4⟩
  refine Or.inr ⟨g0, ?_⟩
  by_cases g1 : k.toInt = 1
  rotate_left
  · exact ⟨-2, yal_x_23 hG ⟨g0, g1⟩, zal_x hG g0 g1⟩
  have hV0 := hVI
  obtain ⟨⟨p1, p2, p3⟩, p4, p5, p6, ⟨q1, q2⟩, ⟨q3, q4⟩, ⟨q5, q6⟩, q7, q8, q9, ⟨q10, q11⟩, q12, q13, q14, q15, q16, q17⟩ := hVI
  have at1 : ∀ (c n : Nat) (i : Int32) (iN : Nat), (∀ g : FieldType → Nat → Option xR, xarr (124, I, J, R) c g = g .int n) → n < 2147483648 → i.toInt = iN → iN < n → ∀ d, xEv L xs d 39 0 [.ref c, .int i] [] (124, I, J, R) (some (.int (I c iN))) (124, I, J, R) := by
    intro c n i iN ho hn ei hi d
    have ec := clamp_s (i := i) (by omega)
    have h4 := at_run (L := L) (xs := xs) (d := d) (h := (124, I, J, R)) (c := c) (n := n) ho hn i
    rw [if_pos ⟨by omega, by omega⟩, show i.toNatClampNeg = iN by omega] at h4
    exact h4
  have lp : ∀ (f kN : Nat) (n s : Int32) (w3 : Value), kN + f = nn → n.toInt = kN → 0 ≤ s.toInt → s.toInt ≤ 99 * kN → ∃ r : Int32, xEv L xs (d + 5) 92 4 [.ref 0, .int s, .int n, w3] [] (124, I, J, R) (some (.int r)) (124, I, J, R) ∧ xEv L xs (d' + 8) 207 4 [.ref 86, .int s, .int n] [] (124, I, J, R) (some (.int r)) (124, I, J, R) := by
    intro f
    induction f with
    | zero =>
      intro kN n s w3 hk en s0 sb
      exact ⟨s, ywa_e_23 hG h8 (by omega), zap_e hG (by omega)⟩
    | succ f ih =>
      intro kN n s w3 hk en s0 sb
      have en' : (n + 1).toInt = (kN + 1 : Nat) := by rw [i_add1 (by omega)]; omega
      have ec := clamp_s (i := n) (by omega)
      have ek : n.toNatClampNeg = kN := by omega
      obtain ⟨o1, o2, -, o4, o5, o6⟩ := q9 kN (by omega)
      obtain ⟨f1, f2, f3, f4, f5⟩ := q16 kN (by omega)
      have dl := q14 kN (by omega)
      have db : dlN l (I 33 kN).toInt ≤ l.length := List.length_filter_le _ _
      have e0 : (0 : Int32).toInt = 0 := by decide
      obtain ⟨o, x1, x2, x3⟩ := soo_23 (L := L) (xs := xs) (d := d + 2) (d' := d' + 6) (I := I) (J := J) hG hV0 (b := I 35 kN) (fr := I 31 kN) (to := I 32 kN) (tm := 0) ⟨f1, f2⟩ ⟨f3, f4⟩ ⟨by rw [e0]; omega, by rw [e0]; omega⟩ f5
      have r1 := at1 35 4 n kN (fun _ => rfl) (by decide) en (by omega) (d + 4)
      have r2 := at1 31 4 n kN (fun _ => rfl) (by decide) en (by omega) (d + 4)
      have r3 := at1 32 4 n kN (fun _ => rfl) (by decide) en (by omega) (d + 4)
      have r4 := at1 36 4 n kN (fun _ => rfl) (by decide) en (by omega) (d + 4)
      have r5 := at1 34 4 n kN (fun _ => rfl) (by decide) en (by omega) (d + 4)
      have x2' : xEv L xs (d' + 7) 185 0 [.ref 86, .int (I 100 n.toNatClampNeg), .int (I 96 n.toNatClampNeg), .int (I 97 n.toNatClampNeg), .int 0, xmk, xmk, xmk, xmk, xmk] [] (124, I, J, R) (some (.int (if o = -1 then I 86 26 else o))) (124, I, J, R) := by
        rw [ek, ← o1, ← o2, ← o5]
        exact x2
      have b99 := h99I kN (by omega)
      have em : (-1 : Int32).toInt = -1 := by decide
      by_cases g : o = -1
      · rw [if_pos g] at x2'
        obtain ⟨r, y1, y2⟩ := ih (kN + 1) (n + 1) s (.int o) (by omega) en' s0 (by omega)
        exact ⟨r, ywa_0_23 hG h8 (by omega) r1 r2 r3 x1 (by rw [g]; decide) y1, zap_n hG (by omega) (by omega) (by omega) (by omega) (by omega) (by omega) (by omega) x2' (by omega) (by omega) (by rw [ek, ← o6]; omega) (by rw [Int32.add_zero]; exact y2)⟩
      · rw [if_neg g] at x2'
        have x3' : 0 ≤ o.toInt ∧ o.toInt < l.length := by
          rcases x3 with h | h
          · exact absurd h g
          · exact h
        by_cases g2 : o.toInt < (I 36 kN).toInt
        · have ew : (s + I 34 kN).toInt = s.toInt + (I 34 kN).toInt := i_add (by rw [o4]; omega) (by rw [o4]; omega)
          obtain ⟨r, y1, y2⟩ := ih (kN + 1) (n + 1) (s + I 34 kN) (.int o) (by omega) en' (by rw [ew, o4]; omega) (by rw [ew, o4]; omega)
          exact ⟨r, ywa_2_23 hG h8 (by omega) r1 r2 r3 x1 (by omega) r4 g2 r5 y1, zap_y hG (by omega) (by omega) (by omega) (by omega) (by omega) (by omega) (by omega) x2' (by omega) (by omega) (by rw [ek, ← o6]; exact g2) (by omega) (by omega) (by rw [ek, ← o4]; exact y2)⟩
        · obtain ⟨r, y1, y2⟩ := ih (kN + 1) (n + 1) s (.int o) (by omega) en' s0 (by omega)
          exact ⟨r, ywa_1_23 hG h8 (by omega) r1 r2 r3 x1 (by omega) r4 (by omega) y1, zap_n hG (by omega) (by omega) (by omega) (by omega) (by omega) (by omega) (by omega) x2' (by omega) (by omega) (by rw [ek, ← o6]; omega) (by rw [Int32.add_zero]; exact y2)⟩
  obtain ⟨r, y1, y2⟩ := lp nn 0 0 0 xmk (by omega) (by decide) (by decide) (by decide)
  exact ⟨r, yal_1_23 hG g1 (ywa_s_23 hG y1), zal_1 hG g0 g1 (zap_s hG y2)⟩
/-- together, of both -/
theorem toE_23 {L : Nat} {xs : Nat → Int32} {d d' : Nat} {I Ir : Nat → Nat → Int32} {J Jr : Nat → Nat → Int64} {R Rr : Nat → Nat → Nat} (hG : aGd R) (hGr : aGd Rr) (h8 : R 0 8 = 24) {np nm nn : Nat} {l : List (Nat × Nat)} (hV : VR_23 np nm nn l I Ir) (hh : hrS nm l Ir) (h90 : ∀ q, q < 7 → (Ir 90 q).toInt ≤ 3) (h99 : ∀ q, q < 4 → 0 ≤ (Ir 99 q).toInt ∧ (Ir 99 q).toInt ≤ 99) (hP : I 57 8 = 0 ∨ (I 57 8 = 1 ∧ yPW_23 I)) (u q : Int32) :
    ∃ (r : Int32) (I' Ir' : Nat → Nat → Int32), xEv L xs (d + 6) 93 0 [.ref 0, .int u, .int q, xmk] [] (124, I, J, R) (some (.int r)) (124, I', J, R) ∧ xEv L xs (d' + 8) 208 0 [.ref 86, .int u, .int q, xmk, xmk, xmk, xmk, xmk] [] (124, Ir, Jr, Rr) (some (.int r)) (124, Ir', Jr, Rr) ∧ (I' = I ∨ (I' 57 8 = 1 ∧ yPW_23 I' ∧ ∀ c k, c < 57 → I' c k = I c k)) := by
  obtain ⟨⟨e1, e2, e3⟩, m1, m2, m3, m4, m5, m6, m7⟩ := zmk_23 hV hh h90 h99
  have hV0 := hV
  obtain ⟨⟨p1, p2, p3⟩, p4, p5, p6, ⟨q1, q2⟩, ⟨q3, q4⟩, ⟨q5, q6⟩, q7, q8, q9, ⟨q10, q11⟩, q12, q13, q14, q15, q16, q17⟩ := hV
  have e16 : I 23 16 = Ir 88 2 := Int32.toInt_inj.mp (by rw [q5, q6])
  have ref := zto_run (L := L) (xs := xs) (d := d') (I := Ir) (J := Jr) hGr m1 m2 m7 u q
  rw [← e16] at ref
  by_cases gu : u.toInt < 1
  · rcases ref with ⟨-, y⟩ | ⟨h, -⟩
    · exact ⟨-2, I, Ir, yto_0_23 hG gu, y, Or.inl rfl⟩
    · omega
  by_cases gv : u.toInt ≥ (1 <<< ((I 23 16) &&& 31)).toInt
  · rcases ref with ⟨-, y⟩ | ⟨h, -⟩
    · exact ⟨-2, I, Ir, yto_1_23 hG (by omega) h8 gv, y, Or.inl rfl⟩
    · omega
  rcases hp_run_23 (L := L) (xs := xs) (d := d + 5) (I := I) (J := J) hG q1 q with ⟨hq, xq⟩ | ⟨hq, xq⟩
  rotate_left
  · rcases ref with ⟨-, y⟩ | ⟨h, -⟩
    · exact ⟨-2, I, Ir, yto_2_23 hG (by omega) h8 (by omega) xq, y, Or.inl rfl⟩
    · exact absurd ⟨h.2.2.1, by omega⟩ hq
  rcases ref with ⟨h, -⟩ | ⟨-, r, Ir', y, hr⟩
  · exact absurd ⟨by omega, by omega, hq.1, by omega⟩ h
  obtain ⟨I', z1, z2, z3, z4⟩ := ywk_23 (L := L) (xs := xs) (d := d) (I := I) (J := J) hG hV0 hh h90 h99 hP
  have hW := z3.2
  rw [zWf_c_23 z4] at hW
  have ec := clamp_s (i := q) hq.1
  obtain ⟨qN, hqN⟩ : ∃ qN, q.toNatClampNeg = qN := ⟨_, rfl⟩
  rw [hqN] at hr
  have e16N : I 23 16 = Int32.ofNat nn := k_small q5 (by omega)
  obtain ⟨s1, s2⟩ := z16_S nn p3
  rw [e16N, s1] at gv
  obtain ⟨uN, huN⟩ := Int.eq_ofNat_of_zero_le (show 0 ≤ u.toInt by omega)
  have hu16 : u = Int32.ofNat uN := k_small huN (by omega)
  obtain ⟨o, x1, x2⟩ := yft_run (L := L) (xs := xs) (d := d + 4) (I := I') (J := J) (R := R) hG m1 hW (u := u) (q := q) (uN := uN) (qN := qN) hu16 (by omega) (fun n hn hb => Classical.byContradiction fun g => by
    rw [z16_B nn p3 uN (by omega) n hn (by omega)] at hb
    cases hb) (by omega) (by omega)
  have em : (-1 : Int32).toInt = -1 := by decide
  have k64 := m1.2.2.1
  rcases x2 with ⟨b1, b2⟩ | ⟨s, b1, b2, b3, b4⟩
  · have er : r = -1 := by
      rcases hr with ⟨h, -⟩ | ⟨-, ⟨h, -⟩ | ⟨t, t1, -, t3, -⟩⟩
      · exact absurd h (b2 0 (Nat.zero_le _))
      · exact h
      · exact absurd t3 (b2 (t + 1) t1)
    rw [er] at y
    exact ⟨-1, I', Ir', yto_n_23 hG (by omega) h8 (by rw [e16N, s1]; omega) xq z1 x1 (by omega) b1, y, Or.inr ⟨z2, z3, z4⟩⟩
  · by_cases gs : s = 0
    · have er : r = -4 := by
        rcases hr with ⟨-, h⟩ | ⟨h, -⟩
        · exact h
        · rw [gs] at b3
          exact absurd b3 h
      rw [er] at y
      exact ⟨-4, I', Ir', yto_s_23 hG (by omega) h8 (by rw [e16N, s1]; omega) xq z1 x1 (by omega), y, Or.inr ⟨z2, z3, z4⟩⟩
    · obtain ⟨s', hs'⟩ : ∃ s', s = s' + 1 := ⟨s - 1, by omega⟩
      have er : r = o := by
        refine Int32.toInt_inj.mp ?_
        rcases hr with ⟨h, -⟩ | ⟨-, ⟨-, h⟩ | ⟨t, t1, t2, t3, t4⟩⟩
        · exact absurd h (b4 0 (by omega))
        · rw [hs'] at b3
          exact absurd b3 (h s' (by omega))
        · have c1 : ¬ t + 1 < s := fun h => b4 (t + 1) h t3
          have c2 : ¬ s' < t := fun h => by
            rw [hs'] at b3
            exact t4 s' h b3
          omega
      rw [er] at y
      exact ⟨o, I', Ir', yto_y_23 hG (by omega) h8 (by rw [e16N, s1]; omega) xq z1 x1 (by omega) (by omega), y, Or.inr ⟨z2, z3, z4⟩⟩
