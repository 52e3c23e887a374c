/-! a state is come to -/
def ycn (f : Nat → Int) : Nat → Nat
  | 0 => 0
  | n + 1 => ycn f n + if 0 ≤ f n then 1 else 0
theorem ycn_s (f : Nat → Int) (n : Nat) : ycn f (n + 1) = ycn f n + if 0 ≤ f n then 1 else 0 := rfl
theorem ycn_b (f : Nat → Int) : ∀ n, ycn f n ≤ n
  | 0 => Nat.le_refl _
  | n + 1 => by
    have h := ycn_b f n
    rw [ycn_s]
    split <;> omega
theorem ycn_l {f : Nat → Int} {y : Nat} (h : f y < 0) : ∀ n, y < n → ycn f n < n
  | 0, h1 => by omega
  | n + 1, h1 => by
    rw [ycn_s]
    by_cases e : y = n
    · rw [← e, if_neg (by omega)]
      have := ycn_b f y
      omega
    · have := ycn_l h n (by omega)
      split <;> omega
theorem ycn_c {f g : Nat → Int} : ∀ n, (∀ k, k < n → (0 ≤ f k ↔ 0 ≤ g k)) → ycn f n = ycn g n
  | 0, _ => rfl
  | n + 1, h => by
    rw [ycn_s, ycn_s, ycn_c n (fun k hk => h k (by omega))]
    by_cases e : 0 ≤ f n
    · rw [if_pos e, if_pos ((h n (by omega)).mp e)]
    · rw [if_neg e, if_neg (show ¬ 0 ≤ g n from fun z => e ((h n (by omega)).mpr z))]
theorem ycn_u {f g : Nat → Int} {y : Nat} (h1 : f y < 0) (h2 : 0 ≤ g y) (h3 : ∀ k, k ≠ y → g k = f k) : ∀ n, y < n → ycn g n = ycn f n + 1
  | 0, h => by omega
  | n + 1, h => by
    rw [ycn_s, ycn_s]
    by_cases e : y = n
    · rw [← e, if_pos h2, if_neg (by omega), ycn_c (f := g) (g := f) y (fun k hk => by rw [h3 k (by omega)])]
    · rw [ycn_u h1 h2 h3 n (by omega), h3 n (fun z => e z.symm)]
      omega
/-- how many there are -/
def yCt (I : Nat → Nat → Int32) (k : Nat) : Prop := k = ycn (fun y => (I 58 y).toInt) 2401
theorem yCt_b {I : Nat → Nat → Int32} {k : Nat} (h : yCt I k) : k ≤ 2401 := by
  have e : k = ycn (fun y => (I 58 y).toInt) 2401 := h
  rw [e]
  exact ycn_b _ _
theorem yCt_l {I : Nat → Nat → Int32} {k y : Nat} (h : yCt I k) (hy : y < 2401) (h0 : (I 58 y).toInt < 0) : k < 2401 := by
  have e : k = ycn (fun y => (I 58 y).toInt) 2401 := h
  rw [e]
  exact ycn_l (f := fun z => (I 58 z).toInt) (y := y) h0 2401 hy
theorem yCt_c {I I' : Nat → Nat → Int32} {k : Nat} (h : yCt I k) (e : ∀ y, y < 2401 → (0 ≤ (I 58 y).toInt ↔ 0 ≤ (I' 58 y).toInt)) : yCt I' k := by
  have e1 : k = ycn (fun y => (I 58 y).toInt) 2401 := h
  show k = ycn (fun y => (I' 58 y).toInt) 2401
  rw [e1]
  exact ycn_c 2401 e
theorem yCt_u {I I' : Nat → Nat → Int32} {k y : Nat} (h : yCt I k) (hy : y < 2401) (h0 : (I 58 y).toInt < 0) (h1 : 0 ≤ (I' 58 y).toInt) (e : ∀ z, z ≠ y → I' 58 z = I 58 z) : yCt I' (k + 1) := by
  have e1 : k = ycn (fun y => (I 58 y).toInt) 2401 := h
  show k + 1 = ycn (fun y => (I' 58 y).toInt) 2401
  rw [e1]
  exact (ycn_u (f := fun z => (I 58 z).toInt) (g := fun z => (I' 58 z).toInt) h0 h1 (fun z hz => by show (I' 58 z).toInt = (I 58 z).toInt; rw [e z hz]) 2401 hy).symm
/-- the table of the states -/
def yT (w : zW) (I : Nat → Nat → Int32) : Prop := ∃ kN : Nat, (I 57 5).toInt = kN ∧ yCt I kN ∧ (∀ i, i < kN → ∃ x : Nat, (I 59 i).toInt = x ∧ zV w x ∧ yHd w (I 60 i) x ∧ 0 ≤ (I 58 x).toInt) ∧ (∀ y : Nat, y < 2401 → 0 ≤ (I 58 y).toInt → ∃ i, i < kN ∧ (I 59 i).toInt = y) ∧ (∀ i j, i < kN → j < kN → (I 59 i).toInt = (I 59 j).toInt → i = j) ∧ (∀ y, y < 2401 → -1 ≤ (I 58 y).toInt)
/-- what the table's work leaves as it was -/
def yF (I I' : Nat → Nat → Int32) : Prop := ∀ c k, ¬ (c = 57 ∧ (k = 5 ∨ k = 7)) → c ≠ 58 → c ≠ 59 → c ≠ 60 → c ≠ 61 → I' c k = I c k
theorem yF_t {I I1 I2 : Nat → Nat → Int32} (h : yF I I1) (g : yF I1 I2) : yF I I2 := fun c k a b e f i => (g c k a b e f i).trans (h c k a b e f i)
theorem yF_r {I : Nat → Nat → Int32} : yF I I := fun _ _ _ _ _ _ _ => rfl
def yA (w : zW) (I I' : Nat → Nat → Int32) (y : Nat) (c : Int32) (t : Int) : Prop := yF I I' ∧ yT w I' ∧ (∀ z, z ≠ y → I' 58 z = I 58 z) ∧ ((c.toInt ≤ (I 58 y).toInt ∧ I' = I) ∨ ((I 58 y).toInt < c.toInt ∧ I' 58 y = c ∧ I' 57 7 = 1)) ∧ (∀ i : Nat, (i : Int) < (I 57 5).toInt → I' 59 i = I 59 i ∧ I' 60 i = I 60 i) ∧ (I 57 5).toInt ≤ (I' 57 5).toInt ∧ (∀ j, j < 112 → (I' 61 j).toInt ≤ (I 61 j).toInt) ∧ ((I 58 y).toInt < 0 → ∀ p, p < 7 → (I' 61 (yS w y p * 7 + p)).toInt ≤ t) ∧ (∀ j, I' 61 j = I 61 j ∨ ((I' 61 j).toInt = t ∧ (I 58 y).toInt < 0 ∧ ∃ p, p < 7 ∧ j = yS w y p * 7 + p))
/-- worth more than before -/
theorem yT_m {w : zW} {I I' : Nat → Nat → Int32} {y : Nat} (hT : yT w I) (e1 : I' 57 5 = I 57 5) (e2 : ∀ i, I' 59 i = I 59 i) (e3 : ∀ i, I' 60 i = I 60 i) (e4 : ∀ z, z ≠ y → I' 58 z = I 58 z) (h0 : 0 ≤ (I 58 y).toInt) (h1 : 0 ≤ (I' 58 y).toInt) : yT w I' := by
  obtain ⟨kN, a1, a2, a3, a4, a5, a6⟩ := hT
  have nn : ∀ z, 0 ≤ (I 58 z).toInt ↔ 0 ≤ (I' 58 z).toInt := fun z => by
    by_cases g : z = y
    · rw [g]
      exact ⟨fun _ => h1, fun _ => h0⟩
    · rw [e4 z g]
  refine ⟨kN, by rw [e1]; exact a1, ?_, fun i hi => ?_, fun z hz g => ?_, fun i j hi hj g => ?_, fun z hz => ?_⟩
  · exact yCt_c a2 (fun z _ => nn z)
  · obtain ⟨x, b1, b2, b3, b4⟩ := a3 i hi
    exact ⟨x, by rw [e2]; exact b1, b2, by rw [e3]; exact b3, (nn x).mp b4⟩
  · obtain ⟨i, b1, b2⟩ := a4 z hz ((nn z).mpr g)
    exact ⟨i, b1, by rw [e2]; exact b2⟩
  · rw [e2, e2] at g
    exact a5 i j hi hj g
  · by_cases g : z = y
    · rw [g]
      omega
    · rw [e4 z g]
      exact a6 z hz
/-- one more -/
theorem yT_n {w : zW} {I I' : Nat → Nat → Int32} {y kN : Nat} (hT : yT w I) (hk : (I 57 5).toInt = kN) (e1 : (I' 57 5).toInt = (kN + 1 : Nat)) (hv : zV w y) (hy : y < 2401) (e2 : ∀ i, i ≠ kN → I' 59 i = I 59 i ∧ I' 60 i = I 60 i) (e3 : (I' 59 kN).toInt = y) (hh : yHd w (I' 60 kN) y) (e4 : ∀ z, z ≠ y → I' 58 z = I 58 z) (h0 : (I 58 y).toInt < 0) (h1 : 0 ≤ (I' 58 y).toInt) : yT w I' := by
  obtain ⟨k', a1, a2, a3, a4, a5, a6⟩ := hT
  have ek : k' = kN := by omega
  subst ek
  have ne : ∀ i, i < k' → (I 59 i).toInt ≠ y := fun i hi g => by
    obtain ⟨x, b1, -, -, b4⟩ := a3 i hi
    have e : x = y := by omega
    rw [e] at b4
    omega
  refine ⟨k' + 1, e1, ?_, fun i hi => ?_, fun z hz g => ?_, fun i j hi hj g => ?_, fun z hz => ?_⟩
  · exact yCt_u a2 hy h0 h1 e4
  · by_cases g : i = k'
    · rw [g]
      exact ⟨y, e3, hv, hh, h1⟩
    · obtain ⟨x, b1, b2, b3, b4⟩ := a3 i (by omega)
      obtain ⟨f1, f2⟩ := e2 i g
      refine ⟨x, by rw [f1]; exact b1, b2, by rw [f2]; exact b3, ?_⟩
      by_cases gx : x = y
      · rw [gx]
        exact h1
      · rw [e4 x gx]
        exact b4
  · by_cases gz : z = y
    · rw [gz]
      exact ⟨k', by omega, e3⟩
    · rw [e4 z gz] at g
      obtain ⟨i, b1, b2⟩ := a4 z hz g
      exact ⟨i, by omega, by rw [(e2 i (by omega)).1]; exact b2⟩
  · by_cases gi : i = k'
    · by_cases gj : j = k'
      · omega
      · rw [gi, e3, (e2 j gj).1] at g
        exact absurd g.symm (ne j (by omega))
    · by_cases gj : j = k'
      · rw [gj, e3, (e2 i gi).1] at g
        exact absurd g (ne i (by omega))
      · rw [(e2 i gi).1, (e2 j gj).1] at g
        exact a5 i j (by omega) (by omega) g
  · by_cases g : z = y
    · rw [g]
      omega
    · rw [e4 z g]
      exact a6 z hz
theorem yar_run {L : Nat} {xs : Nat → Int32} {d : Nat} {I : Nat → Nat → Int32} {J : Nat → Nat → Int64} {R : Nat → Nat → Nat} (hG : aGd R) {w : zW} (hT : yT w I) {y c h t : Int32} {yN : Nat} (hy : y.toInt = yN) (hv : zV w yN) (hh : yHd w h yN) (hc : 0 ≤ c.toInt) : ∃ I' : Nat → Nat → Int32, xEv L xs (d + 1) 86 0 [.ref 57, .int y, .int h, .int c, .int t, xmk, xmk, xmk] [] (124, I, J, R) none (124, I', J, R) ∧ yA w I I' yN c t.toInt := by
  have yl : yN < 2401 := hv.1.1
  have ecy := clamp_s (i := y) (by omega)
  have eky : y.toNatClampNeg = yN := by omega
  have c1 := at_run (L := L) (xs := xs) (d := d) (h := (124, I, J, R)) (c := 58) (n := 2401) (fun _ => rfl) (by decide) y
  rw [if_pos ⟨by omega, by omega⟩, eky] at c1
  have c1' : xEv L xs d 39 0 [.ref 58, .int y] [] (124, I, J, R) (some (.int (I 58 yN))) (124, I, J, R) := c1
  by_cases g1 : (I 58 yN).toInt ≥ c.toInt
  · exact ⟨I, yar_0 hG c1' g1, yF_r, hT, fun _ _ => rfl, Or.inl ⟨g1, rfl⟩, fun _ _ => ⟨rfl, rfl⟩, Int.le_refl _, fun _ _ => Int.le_refl _, fun z => by omega, fun _ => Or.inl rfl⟩
  have c2 := put_in (L := L) (xs := xs) (d := d) (I := uI I 57 7 1) (J := J) (R := R) (c := 58) (n := 2401) (fun _ => rfl) (by decide) (i := y) c (by omega) (by omega)
  rw [eky] at c2
  obtain ⟨I1, hI1⟩ : ∃ I1, uI (uI I 57 7 1) 58 yN c = I1 := ⟨_, rfl⟩
  rw [hI1] at c2
  have o1 : ∀ cc k, ¬ (cc = 57 ∧ k = 7) → ¬ (cc = 58 ∧ k = yN) → I1 cc k = I cc k := fun cc k a b => by rw [← hI1, uI_n _ _ b, uI_n _ _ a]
  have o2 : I1 58 yN = c := by rw [← hI1, uI_s]
  have o3 : I1 57 7 = 1 := by rw [← hI1, uI_n _ _ (by omega), uI_s]
  by_cases g2 : 0 ≤ (I 58 yN).toInt
  · refine ⟨I1, yar_1 hG c1' (by omega) c2 (by omega), fun cc k a b _ _ _ => o1 cc k (by omega) (by omega), yT_m hT (o1 57 5 (by omega) (by omega)) (fun i => o1 59 i (by omega) (by omega)) (fun i => o1 60 i (by omega) (by omega)) (fun z hz => o1 58 z (by omega) (fun e => hz e.2)) g2 (by rw [o2]; exact hc), fun z hz => o1 58 z (by omega) (fun e => hz e.2), Or.inr ⟨by omega, o2, o3⟩, fun i _ => ⟨o1 59 i (by omega) (by omega), o1 60 i (by omega) (by omega)⟩, by rw [o1 57 5 (by omega) (by omega)]; exact Int.le_refl _, fun j _ => by rw [o1 61 j (by omega) (by omega)]; exact Int.le_refl _, fun z => by omega, fun j => Or.inl (o1 61 j (by omega) (by omega))⟩
  have hT0 := hT
  obtain ⟨kN, a1, a2, a3, a4, a5, a6⟩ := hT
  have kl : kN < 2401 := yCt_l a2 yl (by omega)
  have m1 := a6 yN yl
  have ek : (I1 57 5).toInt = kN := by rw [o1 57 5 (by omega) (by omega)]; exact a1
  have eck := clamp_s (i := I1 57 5) (by omega)
  have ekk : (I1 57 5).toNatClampNeg = kN := by omega
  have c3 := put_in (L := L) (xs := xs) (d := d) (I := I1) (J := J) (R := R) (c := 59) (n := 2401) (fun _ => rfl) (by decide) (i := I1 57 5) y (by omega) (by omega)
  rw [ekk] at c3
  have e52 : (uI I1 59 kN y) 57 5 = I1 57 5 := uI_n _ _ (by omega)
  have c4 := put_in (L := L) (xs := xs) (d := d) (I := uI I1 59 kN y) (J := J) (R := R) (c := 60) (n := 2401) (fun _ => rfl) (by decide) (i := (uI I1 59 kN y) 57 5) h (by rw [e52]; omega) (by rw [e52]; omega)
  have ekk2 : ((uI I1 59 kN y) 57 5).toNatClampNeg = kN := by rw [e52]; exact ekk
  rw [ekk2] at c4
  obtain ⟨I3, hI3⟩ : ∃ I3, uI (uI I1 59 kN y) 60 kN h = I3 := ⟨_, rfl⟩
  rw [hI3] at c4
  have q1 : ∀ cc k, ¬ (cc = 59 ∧ k = kN) → ¬ (cc = 60 ∧ k = kN) → I3 cc k = I1 cc k := fun cc k a b => by rw [← hI3, uI_n _ _ b, uI_n _ _ a]
  have q2 : I3 59 kN = y := by rw [← hI3, uI_n _ _ (by omega), uI_s]
  have q3 : I3 60 kN = h := by rw [← hI3, uI_s]
  have q5 : (I3 57 5 + 1).toInt = (kN + 1 : Nat) := by
    rw [i_add1 (by rw [q1 57 5 (by omega) (by omega)]; omega), q1 57 5 (by omega) (by omega), ek]
    omega
  have lp : ∀ (f p : Nat) (pi : Int32) (w7 : Value) (Im : Nat → Nat → Int32), p + f = 7 → pi.toInt = p → (∀ cc k, cc ≠ 61 → Im cc k = (uI I3 57 5 (I3 57 5 + 1)) cc k) → (∀ j, j < 112 → (Im 61 j).toInt ≤ (I 61 j).toInt) → (∀ p', p' < p → (Im 61 (yS w yN p' * 7 + p')).toInt ≤ t.toInt) → (∀ j, Im 61 j = I 61 j ∨ ((Im 61 j).toInt = t.toInt ∧ ∃ p', p' < 7 ∧ j = yS w yN p' * 7 + p')) → ∃ I' : Nat → Nat → Int32, xEv L xs (d + 1) 86 75 [.ref 57, .int y, .int h, .int c, .int t, .int (I 58 yN), .int pi, w7] [] (124, Im, J, R) none (124, I', J, R) ∧ (∀ cc k, cc ≠ 61 → I' cc k = (uI I3 57 5 (I3 57 5 + 1)) cc k) ∧ (∀ j, j < 112 → (I' 61 j).toInt ≤ (I 61 j).toInt) ∧ (∀ p', p' < 7 → (I' 61 (yS w yN p' * 7 + p')).toInt ≤ t.toInt) ∧ (∀ j, I' 61 j = I 61 j ∨ ((I' 61 j).toInt = t.toInt ∧ ∃ p', p' < 7 ∧ j = yS w yN p' * 7 + p')) := by
    intro f
    induction f with
    | zero =>
      intro p pi w7 Im hp ep f1 f2 f3 f4
      have e : p = 7 := by omega
      rw [e] at f3
      exact ⟨Im, yar_e hG (by omega), f1, f2, f3, f4⟩
    | succ f ih =>
      intro p pi w7 Im hp ep f1 f2 f3 f4
      have ep' : (pi + 1).toInt = (p + 1 : Nat) := by rw [i_add1 (by omega)]; omega
      have sl := yS_lt w yN p
      have e7 : (7 : Int32).toInt = 7 := by decide
      have eu := y_i sl
      have m7 : (Int32.ofNat (yS w yN p) * 7).toInt = ((yS w yN p * 7 : Nat) : Int) := by
        rw [i_mul (by rw [e7]; omega) (by rw [e7]; omega), e7, eu]
        omega
      have ei : (Int32.ofNat (yS w yN p) * 7 + pi).toInt = ((yS w yN p * 7 + p : Nat) : Int) := by
        rw [i_add (by omega) (by omega), m7, ep]
        omega
      obtain ⟨ix, hix⟩ : ∃ ix, Int32.ofNat (yS w yN p) * 7 + pi = ix := ⟨_, rfl⟩
      rw [hix] at ei
      obtain ⟨jN, hjN⟩ : ∃ jN, yS w yN p * 7 + p = jN := ⟨_, rfl⟩
      rw [hjN] at ei
      have jl : jN < 112 := by omega
      have eci := clamp_s (i := ix) (by omega)
      have eki : ix.toNatClampNeg = jN := by omega
      have r1 := yso_run (L := L) (xs := xs) (d := d) (I := Im) (J := J) hG hh ep (by omega)
      have r2 := at_run (L := L) (xs := xs) (d := d) (h := (124, Im, J, R)) (c := 61) (n := 112) (fun _ => rfl) (by decide) ix
      rw [if_pos ⟨by omega, by omega⟩, eki] at r2
      have r2' : xEv L xs d 39 0 [.ref 61, .int ix] [] (124, Im, J, R) (some (.int (Im 61 jN))) (124, Im, J, R) := r2
      obtain ⟨z, hz⟩ : ∃ z, (if t < Im 61 jN then t else Im 61 jN) = z := ⟨_, rfl⟩
      have zz : (z = t ∧ t.toInt < (Im 61 jN).toInt) ∨ (z = Im 61 jN ∧ (Im 61 jN).toInt ≤ t.toInt) := by
        by_cases g : t < Im 61 jN
        · rw [if_pos g] at hz
          exact Or.inl ⟨hz.symm, Int32.lt_iff_toInt_lt.mp g⟩
        · rw [if_neg g] at hz
          exact Or.inr ⟨hz.symm, Classical.byContradiction fun n => g (Int32.lt_iff_toInt_lt.mpr (by omega))⟩
      have r3 := put_in (L := L) (xs := xs) (d := d) (I := Im) (J := J) (R := R) (c := 61) (n := 112) (fun _ => rfl) (by decide) (i := ix) z (by omega) (by omega)
      rw [eki] at r3
      obtain ⟨I', z1, z2⟩ := ih (p + 1) (pi + 1) (.int ix) (uI Im 61 jN z) (by omega) ep' (fun cc k hc => by rw [uI_c _ _ _ hc]; exact f1 cc k hc) (fun j hj => by
          have b := f2 j hj
          by_cases g : j = jN
          · rw [g, uI_s]
            rw [g] at b
            rcases zz with ⟨e, l⟩ | ⟨e, l⟩
            · rw [e]; omega
            · rw [e]; omega
          · rw [uI_n _ _ (fun e => g e.2)]
            exact b) (fun p' hp' => by
          by_cases g : yS w yN p' * 7 + p' = jN
          · rw [g, uI_s]
            rcases zz with ⟨e, l⟩ | ⟨e, l⟩
            · rw [e]; exact Int.le_refl _
            · rw [e]; exact l
          · rw [uI_n _ _ (fun e => g e.2)]
            refine f3 p' (Classical.byContradiction fun n => ?_)
            have e : p' = p := by omega
            rw [e] at g
            exact g hjN) (fun j => by
          by_cases g : j = jN
          · rw [g, uI_s]
            rcases zz with ⟨e, l⟩ | ⟨e, l⟩
            · exact Or.inr ⟨by rw [e], p, by omega, hjN.symm⟩
            · rw [e]
              exact f4 jN
          · rw [uI_n _ _ (fun e => g e.2)]
            exact f4 j)
      exact ⟨I', yar_y hG (by omega) r1 (by rw [hix]; exact r2') (by rw [hix, hz]; exact r3) (by rw [hix]; exact z1), z2⟩
  have n57 : ∀ cc k, ¬ (cc = 57 ∧ k = 5) → (uI I3 57 5 (I3 57 5 + 1)) cc k = I3 cc k := fun cc k a => uI_n _ _ a
  have f61 : ∀ j, (uI I3 57 5 (I3 57 5 + 1)) 61 j = I 61 j := fun j => by rw [n57 61 j (by omega), q1 61 j (by omega) (by omega), o1 61 j (by omega) (by omega)]
  obtain ⟨I', x1, f1, f2, f3, f4⟩ := lp 7 0 0 xmk (uI I3 57 5 (I3 57 5 + 1)) (by omega) (by decide) (fun _ _ _ => rfl) (fun j _ => by rw [f61]; exact Int.le_refl _) (fun p' hp' => absurd hp' (by omega)) (fun j => Or.inl (f61 j))
  have e58 : ∀ z, z ≠ yN → I' 58 z = I 58 z := fun z hz => by rw [f1 58 z (by omega), n57 58 z (by omega), q1 58 z (by omega) (by omega), o1 58 z (by omega) (fun e => hz e.2)]
  have s58 : I' 58 yN = c := by rw [f1 58 yN (by omega), n57 58 yN (by omega), q1 58 yN (by omega) (by omega), o2]
  have s57 : (I' 57 5).toInt = (kN + 1 : Nat) := by rw [f1 57 5 (by omega), uI_s]; exact q5
  have s59 : ∀ i, i ≠ kN → I' 59 i = I 59 i ∧ I' 60 i = I 60 i := fun i hi => ⟨by rw [f1 59 i (by omega), n57 59 i (by omega), q1 59 i (fun e => hi e.2) (by omega), o1 59 i (by omega) (by omega)], by rw [f1 60 i (by omega), n57 60 i (by omega), q1 60 i (by omega) (fun e => hi e.2), o1 60 i (by omega) (by omega)]⟩
  have t59 : (I' 59 kN).toInt = yN := by rw [f1 59 kN (by omega), n57 59 kN (by omega), q2]; exact hy
  have t60 : I' 60 kN = h := by rw [f1 60 kN (by omega), n57 60 kN (by omega), q3]
  refine ⟨I', yar_2 hG c1' (by omega) c2 (by omega) c3 c4 x1, fun cc k a b e f g => ?_, yT_n hT0 a1 s57 hv yl s59 t59 (by rw [t60]; exact hh) e58 (by omega) (by rw [s58]; exact hc), e58, Or.inr ⟨by omega, s58, ?_⟩, fun i hi => s59 i (by omega), by omega, f2, fun _ => f3, fun j => ?_⟩
  · rw [f1 cc k g, n57 cc k (by omega), q1 cc k (by omega) (by omega), o1 cc k (by omega) (by omega)]
  · rw [f1 57 7 (by omega), n57 57 7 (by omega), q1 57 7 (by omega) (by omega), o3]
  · rcases f4 j with g | ⟨g1', g2'⟩
    · exact Or.inl g
    · exact Or.inr ⟨g1', by omega, g2'⟩
