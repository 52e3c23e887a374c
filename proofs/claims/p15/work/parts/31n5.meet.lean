theorem yT_e {w : zW} {I I' : Nat → Nat → Int32} (hT : yT w I) (e1 : I' 57 5 = I 57 5) (e2 : ∀ i, I' 59 i = I 59 i) (e3 : ∀ i, I' 60 i = I 60 i) (e4 : ∀ z, I' 58 z = I 58 z) : yT w I' := by
  have h58 : I' 58 = I 58 := funext e4
  have h59 : I' 59 = I 59 := funext e2
  have h60 : I' 60 = I 60 := funext e3
  obtain ⟨kN, a1, a2, a3, a4, a5, a6⟩ := hT
  exact ⟨kN, by rw [e1]; exact a1, yCt_c a2 (fun y _ => by rw [e4 y]), by rw [h58, h59, h60]; exact a3, by rw [h58, h59]; exact a4, by rw [h59]; exact a5, by rw [h58]; exact a6⟩
/-- the class holds the village -/
def zCl_3 (w : zW) (nm : Nat) (I : Nat → Nat → Int32) : Prop := ((I 3 16).toInt = zN w ∧ (I 3 14).toInt = zP w ∧ (I 3 15).toInt = nm ∧ (I 17 5).toInt = zT w) ∧ (∀ t, t < zT w → (I 20 t).toInt = zA w t ∧ (I 21 t).toInt = zB w t ∧ ((I 22 t).toInt = 10 ↔ zU w t)) ∧ (∀ p, p < zP w → (I 5 p).toInt = zH w p) ∧ (∀ n, n < zN w → (I 11 n).toInt = zF w n ∧ (I 12 n).toInt = zO w n ∧ (I 14 n).toInt = zX w n ∧ (I 16 n).toInt = zL w n ∧ ∀ p, p < 7 → tb (I 15 n) p = zR w n p)
theorem zCl_f_3 {w : zW} {nm : Nat} {I I' : Nat → Nat → Int32} (h : zCl_3 w nm I) (e : ∀ c k, c < 57 → I' c k = I c k) : zCl_3 w nm I' := by
  unfold zCl_3
  rw [e 3 16 (by omega), e 3 14 (by omega), e 3 15 (by omega), e 17 5 (by omega), show I' 20 = I 20 from funext fun k => e _ k (by omega), show I' 21 = I 21 from funext fun k => e _ k (by omega), show I' 22 = I 22 from funext fun k => e _ k (by omega), show I' 5 = I 5 from funext fun k => e _ k (by omega), show I' 11 = I 11 from funext fun k => e _ k (by omega), show I' 12 = I 12 from funext fun k => e _ k (by omega), show I' 14 = I 14 from funext fun k => e _ k (by omega), show I' 16 = I 16 from funext fun k => e _ k (by omega), show I' 15 = I 15 from funext fun k => e _ k (by omega)]
  exact h
/-- who is barred from what, by people -/
def yBa (w : zW) (I : Nat → Nat → Int32) : Prop := ∀ p n, p < zP w → n < zN w → tb (I 62 p) n = zR w n p
/-- a meeting passed -/
theorem ypm_run_3 {L : Nat} {xs : Nat → Int32} {d : Nat} {I : Nat → Nat → Int32} {J : Nat → Nat → Int64} {R : Nat → Nat → Nat} (hG : aGd R) {w : zW} {nm : Nat} (hK : zK w) (hC : zCl_3 w nm I) (hBa : yBa w I) {t : Int32} {tN : Nat} (ht : t.toInt = tN) (tl : tN < zT w) (hH : ∀ p, p < zP w → zH w p ≤ 3) (hu : zU w tN) (hT : yT w I) :
    ∃ I0 I' : Nat → Nat → Int32, xEv L xs (d + 4) 88 0 [.ref 57, .ref 3, .int t, xmk, xmk] [] (124, I, J, R) none (124, I', J, R) ∧ (∀ c k, ¬ (c = 57 ∧ 9 ≤ k) → I0 c k = I c k) ∧ yQ w tN I0 I' ∧ ∀ x y, x < 2401 → 0 ≤ (I0 58 x).toInt → zY w tN x y → (I0 58 x).toInt ≤ (I' 58 y).toInt := by
  obtain ⟨ka, kb, kab, kap, kbp⟩ := zK_t hK tl
  have k4 := hK.1
  have k64 := hK.2.2.1
  have p7 := hK.2.1
  obtain ⟨-, c2, c3, c4⟩ := hC
  obtain ⟨cA, cB, -⟩ := c2 tN tl
  have ect := clamp_s (i := t) (by omega)
  have ekt : t.toNatClampNeg = tN := by omega
  have at1 : ∀ (c n : Nat) (i : Int32) (iN : Nat) (Im : Nat → Nat → Int32), (∀ g : FieldType → Nat → Option xR, xarr (124, Im, J, R) c g = g .int n) → n < 2147483648 → i.toInt = iN → iN < n → ∀ d, xEv L xs d 39 0 [.ref c, .int i] [] (124, Im, J, R) (some (.int (Im c iN))) (124, Im, J, R) := by
    intro c n i iN Im ho hn ei hi d
    have ec := clamp_s (i := i) (by omega)
    have h4 := at_run (L := L) (xs := xs) (d := d) (h := (124, Im, J, R)) (c := c) (n := n) ho hn i
    rw [if_pos ⟨by omega, by omega⟩, show i.toNatClampNeg = iN by omega] at h4
    exact h4
  obtain ⟨a, ha⟩ : ∃ a, I 20 tN = a := ⟨_, rfl⟩
  obtain ⟨b, hb⟩ : ∃ b, I 21 tN = b := ⟨_, rfl⟩
  have ea : a.toInt = zA w tN := by rw [← ha]; exact cA
  have eb : b.toInt = zB w tN := by rw [← hb]; exact cB
  have r1 := at1 20 64 t tN I (fun _ => rfl) (by decide) ht (by omega) (d + 3)
  rw [ha] at r1
  have n1 : ∀ (c k : Nat) (I1 : Nat → Nat → Int32) (j : Nat) (v : Int32), c ≠ 57 → uI I1 57 j v c k = I1 c k := fun c k I1 j v hc => uI_c _ _ _ hc
  have r2 := at1 21 64 t tN (uI I 57 9 a) (fun _ => rfl) (by decide) ht (by omega) (d + 3)
  rw [n1 _ _ _ _ _ (by omega), hb] at r2
  obtain ⟨c, hc⟩ : ∃ c, I 5 (zA w tN) = c := ⟨_, rfl⟩
  obtain ⟨e, he⟩ : ∃ e, I 5 (zB w tN) = e := ⟨_, rfl⟩
  obtain ⟨f, hf⟩ : ∃ f, I 62 (zA w tN) = f := ⟨_, rfl⟩
  obtain ⟨g, hg⟩ : ∃ g, I 62 (zB w tN) = g := ⟨_, rfl⟩
  have r3 := at1 5 7 a _ (uI (uI I 57 9 a) 57 10 b) (fun _ => rfl) (by decide) ea (by omega) (d + 3)
  rw [n1 _ _ _ _ _ (by omega), n1 _ _ _ _ _ (by omega), hc] at r3
  have r4 := at1 5 7 b _ (uI (uI (uI I 57 9 a) 57 10 b) 57 11 c) (fun _ => rfl) (by decide) eb (by omega) (d + 3)
  rw [n1 _ _ _ _ _ (by omega), n1 _ _ _ _ _ (by omega), n1 _ _ _ _ _ (by omega), he] at r4
  have r5 := at1 62 7 a _ (uI (uI (uI (uI I 57 9 a) 57 10 b) 57 11 c) 57 12 e) (fun _ => rfl) (by decide) ea (by omega) (d + 3)
  rw [n1 _ _ _ _ _ (by omega), n1 _ _ _ _ _ (by omega), n1 _ _ _ _ _ (by omega), n1 _ _ _ _ _ (by omega), hf] at r5
  have r6 := at1 62 7 b _ (uI (uI (uI (uI (uI I 57 9 a) 57 10 b) 57 11 c) 57 12 e) 57 13 (f ^^^ (-1))) (fun _ => rfl) (by decide) eb (by omega) (d + 3)
  rw [n1 _ _ _ _ _ (by omega), n1 _ _ _ _ _ (by omega), n1 _ _ _ _ _ (by omega), n1 _ _ _ _ _ (by omega), n1 _ _ _ _ _ (by omega), hg] at r6
  obtain ⟨I0, hI0⟩ : ∃ I0, uI (uI (uI (uI (uI (uI I 57 9 a) 57 10 b) 57 11 c) 57 12 e) 57 13 (f ^^^ (-1))) 57 14 (g ^^^ (-1)) = I0 := ⟨_, rfl⟩
  have fr : ∀ c k, ¬ (c = 57 ∧ 9 ≤ k) → I0 c k = I c k := fun c k h => by rw [← hI0, uI_n _ _ (by omega), uI_n _ _ (by omega), uI_n _ _ (by omega), uI_n _ _ (by omega), uI_n _ _ (by omega), uI_n _ _ (by omega)]
  have s9 : I0 57 9 = a := by rw [← hI0, uI_n _ _ (by omega), uI_n _ _ (by omega), uI_n _ _ (by omega), uI_n _ _ (by omega), uI_n _ _ (by omega), uI_s]
  have s10 : I0 57 10 = b := by rw [← hI0, uI_n _ _ (by omega), uI_n _ _ (by omega), uI_n _ _ (by omega), uI_n _ _ (by omega), uI_s]
  have s11 : I0 57 11 = c := by rw [← hI0, uI_n _ _ (by omega), uI_n _ _ (by omega), uI_n _ _ (by omega), uI_s]
  have s12 : I0 57 12 = e := by rw [← hI0, uI_n _ _ (by omega), uI_n _ _ (by omega), uI_s]
  have s13 : I0 57 13 = f ^^^ (-1) := by rw [← hI0, uI_n _ _ (by omega), uI_s]
  have s14 : I0 57 14 = g ^^^ (-1) := by rw [← hI0, uI_s]
  have hM : yM w tN I0 := ⟨by rw [s9]; exact ea, by rw [s10]; exact eb, by rw [s11, ← hc]; exact c3 _ kap, by rw [s12, ← he]; exact c3 _ kbp, fun n hn => by rw [s13, tb_not (by omega), ← hf, hBa _ n kap hn], fun n hn => by rw [s14, tb_not (by omega), ← hg, hBa _ n kbp hn]⟩
  have hT0 : yT w I0 := yT_e hT (fr 57 5 (by omega)) (fun i => fr 59 i (by omega)) (fun i => fr 60 i (by omega)) (fun i => fr 58 i (by omega))
  obtain ⟨kN, a1, a2, a3, a4, a5, a6⟩ := hT0
  have kl : kN ≤ 2401 := yCt_b a2
  have hT0' : yT w I0 := ⟨kN, a1, a2, a3, a4, a5, a6⟩
  have e5 : I 57 5 = I0 57 5 := (fr 57 5 (by omega)).symm
  have lp : ∀ (j k : Nat) (i : Int32) (Im : Nat → Nat → Int32), k + j = kN → i.toInt = k → yM w tN Im → yQ w tN I0 Im → (∀ k', k' < k → ∀ x, (I0 59 k').toInt = ((x : Nat) : Int) → ∀ y, zY w tN x y → (I0 58 x).toInt ≤ (Im 58 y).toInt) → ∃ I' : Nat → Nat → Int32, xEv L xs (d + 4) 88 102 [.ref 57, .ref 3, .int t, .int (I 57 5), .int i] [] (124, Im, J, R) none (124, I', J, R) ∧ yQ w tN I0 I' ∧ (∀ k', k' < kN → ∀ x, (I0 59 k').toInt = ((x : Nat) : Int) → ∀ y, zY w tN x y → (I0 58 x).toInt ≤ (I' 58 y).toInt) := by
    intro j
    induction j with
    | zero =>
      intro k i Im hk ei hMm hPm hd
      have ek : k = kN := by omega
      rw [ek] at hd
      exact ⟨Im, ypm_e_3 hG (by rw [e5]; omega), hPm, hd⟩
    | succ j ih =>
      intro k i Im hk ei hMm hPm hd
      have ei' : (i + 1).toInt = (k + 1 : Nat) := by rw [i_add1 (by omega)]; omega
      obtain ⟨x, b1, b2, b3, b4⟩ := a3 k (by omega)
      obtain ⟨pf1, pf2⟩ := hPm.2.2.2.2.1.2 k (by omega)
      have q1 := at1 59 2401 i k Im (fun _ => rfl) (by decide) ei (by omega) (d + 3)
      have q2 := at1 60 2401 i k Im (fun _ => rfl) (by decide) ei (by omega) (d + 3)
      have up0 := hPm.2.2.1
      obtain ⟨Io, v1, v2, v3, v4, v5⟩ := ytf_run (L := L) (xs := xs) (d := d) (I := Im) (J := J) (R := R) hG hK ht tl hH hu hMm (x := Im 59 k) (h := Im 60 k) (by rw [pf1]; exact b1) b2 (by rw [pf2]; exact b3) (Int.le_trans b4 (up0 x)) hT0' hPm
      obtain ⟨I', z1, z2⟩ := ih (k + 1) (i + 1) Io (by omega) ei' v2 v3 (fun k' hk' x' hx' y hy => by
        by_cases gk : k' = k
        · rw [gk] at hx'
          have ex : x' = x := by omega
          rw [ex] at hy ⊢
          exact Int.le_trans (up0 x) (v5 y hy)
        · exact Int.le_trans (hd k' (by omega) x' hx' y hy) (v4 y))
      exact ⟨I', ypm_y_3 hG (by rw [e5]; omega) q1 q2 v1 z1, z2⟩
  obtain ⟨I', z1, z2, z3⟩ := lp kN 0 0 I0 (by omega) (by decide) hM (yQ_0 hT0') (fun k' hk' => absurd hk' (by omega))
  refine ⟨I0, I', ypm_s_3 hG r1 r2 r3 r4 r5 r6 (by rw [hI0]; exact z1), fr, z2, fun x y hx h0 hy => ?_⟩
  obtain ⟨k', b1, b2⟩ := a4 x hx h0
  exact z3 k' b1 x b2 y hy
/-- the class holds the village -/
def zCl_23 (w : zW) (nm : Nat) (I : Nat → Nat → Int32) : Prop := ((I 23 16).toInt = zN w ∧ (I 23 14).toInt = zP w ∧ (I 23 15).toInt = nm ∧ (I 37 5).toInt = zT w) ∧ (∀ t, t < zT w → (I 40 t).toInt = zA w t ∧ (I 41 t).toInt = zB w t ∧ ((I 42 t).toInt = 10 ↔ zU w t)) ∧ (∀ p, p < zP w → (I 25 p).toInt = zH w p) ∧ (∀ n, n < zN w → (I 31 n).toInt = zF w n ∧ (I 32 n).toInt = zO w n ∧ (I 34 n).toInt = zX w n ∧ (I 36 n).toInt = zL w n ∧ ∀ p, p < 7 → tb (I 35 n) p = zR w n p)
theorem zCl_f_23 {w : zW} {nm : Nat} {I I' : Nat → Nat → Int32} (h : zCl_23 w nm I) (e : ∀ c k, c < 57 → I' c k = I c k) : zCl_23 w nm I' := by
  unfold zCl_23
  rw [e 23 16 (by omega), e 23 14 (by omega), e 23 15 (by omega), e 37 5 (by omega), show I' 40 = I 40 from funext fun k => e _ k (by omega), show I' 41 = I 41 from funext fun k => e _ k (by omega), show I' 42 = I 42 from funext fun k => e _ k (by omega), show I' 25 = I 25 from funext fun k => e _ k (by omega), show I' 31 = I 31 from funext fun k => e _ k (by omega), show I' 32 = I 32 from funext fun k => e _ k (by omega), show I' 34 = I 34 from funext fun k => e _ k (by omega), show I' 36 = I 36 from funext fun k => e _ k (by omega), show I' 35 = I 35 from funext fun k => e _ k (by omega)]
  exact h
/-- a meeting passed -/
theorem ypm_run_23 {L : Nat} {xs : Nat → Int32} {d : Nat} {I : Nat → Nat → Int32} {J : Nat → Nat → Int64} {R : Nat → Nat → Nat} (hG : aGd R) {w : zW} {nm : Nat} (hK : zK w) (hC : zCl_23 w nm I) (hBa : yBa w I) {t : Int32} {tN : Nat} (ht : t.toInt = tN) (tl : tN < zT w) (hH : ∀ p, p < zP w → zH w p ≤ 3) (hu : zU w tN) (hT : yT w I) :
    ∃ I0 I' : Nat → Nat → Int32, xEv L xs (d + 4) 88 0 [.ref 57, .ref 23, .int t, xmk, xmk] [] (124, I, J, R) none (124, I', J, R) ∧ (∀ c k, ¬ (c = 57 ∧ 9 ≤ k) → I0 c k = I c k) ∧ yQ w tN I0 I' ∧ ∀ x y, x < 2401 → 0 ≤ (I0 58 x).toInt → zY w tN x y → (I0 58 x).toInt ≤ (I' 58 y).toInt := by
  obtain ⟨ka, kb, kab, kap, kbp⟩ := zK_t hK tl
  have k4 := hK.1
  have k64 := hK.2.2.1
  have p7 := hK.2.1
  obtain ⟨-, c2, c3, c4⟩ := hC
  obtain ⟨cA, cB, -⟩ := c2 tN tl
  have ect := clamp_s (i := t) (by omega)
  have ekt : t.toNatClampNeg = tN := by omega
  have at1 : ∀ (c n : Nat) (i : Int32) (iN : Nat) (Im : Nat → Nat → Int32), (∀ g : FieldType → Nat → Option xR, xarr (124, Im, J, R) c g = g .int n) → n < 2147483648 → i.toInt = iN → iN < n → ∀ d, xEv L xs d 39 0 [.ref c, .int i] [] (124, Im, J, R) (some (.int (Im c iN))) (124, Im, J, R) := by
    intro c n i iN Im ho hn ei hi d
    have ec := clamp_s (i := i) (by omega)
    have h4 := at_run (L := L) (xs := xs) (d := d) (h := (124, Im, J, R)) (c := c) (n := n) ho hn i
    rw [if_pos ⟨by omega, by omega⟩, show i.toNatClampNeg = iN by omega] at h4
    exact h4
  obtain ⟨a, ha⟩ : ∃ a, I 40 tN = a := ⟨_, rfl⟩
  obtain ⟨b, hb⟩ : ∃ b, I 41 tN = b := ⟨_, rfl⟩
  have ea : a.toInt = zA w tN := by rw [← ha]; exact cA
  have eb : b.toInt = zB w tN := by rw [← hb]; exact cB
  have r1 := at1 40 64 t tN I (fun _ => rfl) (by decide) ht (by omega) (d + 3)
  rw [ha] at r1
  have n1 : ∀ (c k : Nat) (I1 : Nat → Nat → Int32) (j : Nat) (v : Int32), c ≠ 57 → uI I1 57 j v c k = I1 c k := fun c k I1 j v hc => uI_c _ _ _ hc
  have r2 := at1 41 64 t tN (uI I 57 9 a) (fun _ => rfl) (by decide) ht (by omega) (d + 3)
  rw [n1 _ _ _ _ _ (by omega), hb] at r2
  obtain ⟨c, hc⟩ : ∃ c, I 25 (zA w tN) = c := ⟨_, rfl⟩
  obtain ⟨e, he⟩ : ∃ e, I 25 (zB w tN) = e := ⟨_, rfl⟩
  obtain ⟨f, hf⟩ : ∃ f, I 62 (zA w tN) = f := ⟨_, rfl⟩
  obtain ⟨g, hg⟩ : ∃ g, I 62 (zB w tN) = g := ⟨_, rfl⟩
  have r3 := at1 25 7 a _ (uI (uI I 57 9 a) 57 10 b) (fun _ => rfl) (by decide) ea (by omega) (d + 3)
  rw [n1 _ _ _ _ _ (by omega), n1 _ _ _ _ _ (by omega), hc] at r3
  have r4 := at1 25 7 b _ (uI (uI (uI I 57 9 a) 57 10 b) 57 11 c) (fun _ => rfl) (by decide) eb (by omega) (d + 3)
  rw [n1 _ _ _ _ _ (by omega), n1 _ _ _ _ _ (by omega), n1 _ _ _ _ _ (by omega), he] at r4
  have r5 := at1 62 7 a _ (uI (uI (uI (uI I 57 9 a) 57 10 b) 57 11 c) 57 12 e) (fun _ => rfl) (by decide) ea (by omega) (d + 3)
  rw [n1 _ _ _ _ _ (by omega), n1 _ _ _ _ _ (by omega), n1 _ _ _ _ _ (by omega), n1 _ _ _ _ _ (by omega), hf] at r5
  have r6 := at1 62 7 b _ (uI (uI (uI (uI (uI I 57 9 a) 57 10 b) 57 11 c) 57 12 e) 57 13 (f ^^^ (-1))) (fun _ => rfl) (by decide) eb (by omega) (d + 3)
  rw [n1 _ _ _ _ _ (by omega), n1 _ _ _ _ _ (by omega), n1 _ _ _ _ _ (by omega), n1 _ _ _ _ _ (by omega), n1 _ _ _ _ _ (by omega), hg] at r6
  obtain ⟨I0, hI0⟩ : ∃ I0, uI (uI (uI (uI (uI (uI I 57 9 a) 57 10 b) 57 11 c) 57 12 e) 57 13 (f ^^^ (-1))) 57 14 (g ^^^ (-1)) = I0 := ⟨_, rfl⟩
  have fr : ∀ c k, ¬ (c = 57 ∧ 9 ≤ k) → I0 c k = I c k := fun c k h => by rw [← hI0, uI_n _ _ (by omega), uI_n _ _ (by omega), uI_n _ _ (by omega), uI_n _ _ (by omega), uI_n _ _ (by omega), uI_n _ _ (by omega)]
  have s9 : I0 57 9 = a := by rw [← hI0, uI_n _ _ (by omega), uI_n _ _ (by omega), uI_n _ _ (by omega), uI_n _ _ (by omega), uI_n _ _ (by omega), uI_s]
  have s10 : I0 57 10 = b := by rw [← hI0, uI_n _ _ (by omega), uI_n _ _ (by omega), uI_n _ _ (by omega), uI_n _ _ (by omega), uI_s]
  have s11 : I0 57 11 = c := by rw [← hI0, uI_n _ _ (by omega), uI_n _ _ (by omega), uI_n _ _ (by omega), uI_s]
  have s12 : I0 57 12 = e := by rw [← hI0, uI_n _ _ (by omega), uI_n _ _ (by omega), uI_s]
  have s13 : I0 57 13 = f ^^^ (-1) := by rw [← hI0, uI_n _ _ (by omega), uI_s]
  have s14 : I0 57 14 = g ^^^ (-1) := by rw [← hI0, uI_s]
  have hM : yM w tN I0 := ⟨by rw [s9]; exact ea, by rw [s10]; exact eb, by rw [s11, ← hc]; exact c3 _ kap, by rw [s12, ← he]; exact c3 _ kbp, fun n hn => by rw [s13, tb_not (by omega), ← hf, hBa _ n kap hn], fun n hn => by rw [s14, tb_not (by omega), ← hg, hBa _ n kbp hn]⟩
  have hT0 : yT w I0 := yT_e hT (fr 57 5 (by omega)) (fun i => fr 59 i (by omega)) (fun i => fr 60 i (by omega)) (fun i => fr 58 i (by omega))
  obtain ⟨kN, a1, a2, a3, a4, a5, a6⟩ := hT0
  have kl : kN ≤ 2401 := yCt_b a2
  have hT0' : yT w I0 := ⟨kN, a1, a2, a3, a4, a5, a6⟩
  have e5 : I 57 5 = I0 57 5 := (fr 57 5 (by omega)).symm
  have lp : ∀ (j k : Nat) (i : Int32) (Im : Nat → Nat → Int32), k + j = kN → i.toInt = k → yM w tN Im → yQ w tN I0 Im → (∀ k', k' < k → ∀ x, (I0 59 k').toInt = ((x : Nat) : Int) → ∀ y, zY w tN x y → (I0 58 x).toInt ≤ (Im 58 y).toInt) → ∃ I' : Nat → Nat → Int32, xEv L xs (d + 4) 88 102 [.ref 57, .ref 23, .int t, .int (I 57 5), .int i] [] (124, Im, J, R) none (124, I', J, R) ∧ yQ w tN I0 I' ∧ (∀ k', k' < kN → ∀ x, (I0 59 k').toInt = ((x : Nat) : Int) → ∀ y, zY w tN x y → (I0 58 x).toInt ≤ (I' 58 y).toInt) := by
    intro j
    induction j with
    | zero =>
      intro k i Im hk ei hMm hPm hd
      have ek : k = kN := by omega
      rw [ek] at hd
      exact ⟨Im, ypm_e_23 hG (by rw [e5]; omega), hPm, hd⟩
    | succ j ih =>
      intro k i Im hk ei hMm hPm hd
      have ei' : (i + 1).toInt = (k + 1 : Nat) := by rw [i_add1 (by omega)]; omega
      obtain ⟨x, b1, b2, b3, b4⟩ := a3 k (by omega)
      obtain ⟨pf1, pf2⟩ := hPm.2.2.2.2.1.2 k (by omega)
      have q1 := at1 59 2401 i k Im (fun _ => rfl) (by decide) ei (by omega) (d + 3)
      have q2 := at1 60 2401 i k Im (fun _ => rfl) (by decide) ei (by omega) (d + 3)
      have up0 := hPm.2.2.1
      obtain ⟨Io, v1, v2, v3, v4, v5⟩ := ytf_run (L := L) (xs := xs) (d := d) (I := Im) (J := J) (R := R) hG hK ht tl hH hu hMm (x := Im 59 k) (h := Im 60 k) (by rw [pf1]; exact b1) b2 (by rw [pf2]; exact b3) (Int.le_trans b4 (up0 x)) hT0' hPm
      obtain ⟨I', z1, z2⟩ := ih (k + 1) (i + 1) Io (by omega) ei' v2 v3 (fun k' hk' x' hx' y hy => by
        by_cases gk : k' = k
        · rw [gk] at hx'
          have ex : x' = x := by omega
          rw [ex] at hy ⊢
          exact Int.le_trans (up0 x) (v5 y hy)
        · exact Int.le_trans (hd k' (by omega) x' hx' y hy) (v4 y))
      exact ⟨I', ypm_y_23 hG (by rw [e5]; omega) q1 q2 v1 z1, z2⟩
  obtain ⟨I', z1, z2, z3⟩ := lp kN 0 0 I0 (by omega) (by decide) hM (yQ_0 hT0') (fun k' hk' => absurd hk' (by omega))
  refine ⟨I0, I', ypm_s_23 hG r1 r2 r3 r4 r5 r6 (by rw [hI0]; exact z1), fr, z2, fun x y hx h0 hy => ?_⟩
  obtain ⟨k', b1, b2⟩ := a4 x hx h0
  exact z3 k' b1 x b2 y hy
