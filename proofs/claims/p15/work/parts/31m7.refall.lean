theorem zv_I {w : zW} (hK : zK w) {t : Nat} (ht : t < zT w) {y : Nat} : ∀ (f x : Nat) (mv : Nat → Bool), zI w x → zv w t f x mv y → zI w y := by
  obtain ⟨ka, kb, kab, kap, kbp⟩ := zK_t hK ht
  intro f
  induction f with
  | zero =>
    intro x mv hx h
    have e : y = x := h
    rw [e]
    exact hx
  | succ f ih =>
    intro x mv hx h
    rcases zv_s.mp h with e | ⟨-, n, hg, hv⟩
    · rw [e]
      exact hx
    · exact ih _ _ (zI_s hx hg.1 (zw_lt ka kb (zd_lt _ _))) hv
theorem z7_M : ∀ k, k ≤ 4 → 7 ^ k ≤ 2401 := by
  intro k hk
  have e : k = 0 ∨ k = 1 ∨ k = 2 ∨ k = 3 ∨ k = 4 := by omega
  rcases e with rfl | rfl | rfl | rfl | rfl <;> decide
theorem zun_4 (w : zW) (mv : Nat → Bool) : zun w mv ≤ 4 := by
  have b : ∀ n, zu1 w mv n ≤ 1 := fun n => by
    unfold zu1
    split <;> omega
  have b0 := b 0
  have b1 := b 1
  have b2 := b 2
  have b3 := b 3
  unfold zun
  omega
theorem zi_E {w : zW} (hK : zK w) : zi w 0 (zE w) = 0 := by
  have z : ∀ n, n < 4 → zi1 w 0 (zE w) n = 0 := fun n hn => if_neg (fun h => by
    have k := (hK.2.2.2.2 n h.1).2.2.1
    have e := zE_d hK hn
    rw [if_pos h.1] at e
    exact k (by rw [← e]; exact h.2.2))
  unfold zi
  rw [z 0 (by omega), z 1 (by omega), z 2 (by omega), z 3 (by omega)]
  rfl
/-- the greatest of all ways -/
theorem zaW_run {L : Nat} {xs : Nat → Int32} {d : Nat} {I : Nat → Nat → Int32} {J : Nat → Nat → Int64} {R : Nat → Nat → Nat} (hG : aGd R) {w : zW} (hK : zK w) (hr : zRf w I) : ∃ (r : Int32) (I' : Nat → Nat → Int32), xEv L xs (d + 8) 199 0 [.ref 86, xmk, xmk, xmk] [] (124, I, J, R) (some (.int r)) (124, I', J, R) ∧ zx (zk w (zT w) (zE w)) r.toInt := by
  have k4 := hK.1
  have k64 := hK.2.2.1
  have em : (-1 : Int32).toInt = -1 := by decide
  have e1 : (1 : Int32).toInt = 1 := by decide
  have e0 : (0 : Int32).toInt = 0 := by decide
  obtain ⟨n, yn, en⟩ := zst_run (L := L) (xs := xs) (d := d + 7) (I := I) (J := J) hG k4 hr
  have M24 := z7_M (zN w) k4
  have iM : ∀ y, zI w y → y < 7 ^ zN w := fun y hy => zI_lt k4 hy
  have Mi : ∀ y, y < 7 ^ zN w → zI w y := fun y hy => zI_of k4 hy
  obtain ⟨M, hM⟩ : ∃ M, 7 ^ zN w = M := ⟨_, rfl⟩
  rw [hM] at en M24 iM Mi
  -- all times
  have lpT : ∀ (j k : Nat) (t : Int32) (w3 : Value) (Ik : Nat → Nat → Int32), k + j = zT w → t.toInt = (zT w : Int) - 1 - k → zRf w Ik → (Ik 86 47).toInt = 0 → (∀ y, zI w y → zx (zk w k y) (Ik 111 y).toInt) → ∃ (r : Int32) (I' : Nat → Nat → Int32), xEv L xs (d + 8) 199 37 [.ref 86, .int n, .int t, w3] [] (124, Ik, J, R) (some (.int r)) (124, I', J, R) ∧ zx (zk w (zT w) (zE w)) r.toInt := by
    intro j
    induction j with
    | zero =>
      intro k t w3 Ik hk et hrk hmk hN
      have e : k = zT w := by omega
      rw [e] at hN
      obtain ⟨f, I1, y1, y2, y3, y4⟩ := zfs_run (L := L) (xs := xs) (d := d + 6) (I := Ik) (J := J) hG hK hrk
      obtain ⟨a, y5, y6⟩ := zin_run (L := L) (xs := xs) (d := d + 7) (I := I1) (J := J) hG hK (zRf_e hrk (fun c q _ g2 _ => y4 c q (by omega))) y3 (b := 0) (bN := 0) (by decide)
      have hE := hN (zE w) (zE_I hK)
      have lE := zE_lt hK
      have bE := zk_b hK _ _ _ hE.1
      have ecf := clamp_s (i := f) (by omega)
      have ekf : f.toNatClampNeg = zE w := by omega
      rw [zi_E hK] at y6
      have e111 : I1 111 (zE w) = Ik 111 (zE w) := y4 111 _ (by omega)
      have er : (a + I1 111 (zE w)).toInt = (Ik 111 (zE w)).toInt := by
        rw [i_add (by rw [e111]; omega) (by rw [e111]; omega), y6, e111, Int.zero_add]
      refine ⟨a + I1 111 (zE w), I1, ?_, by rw [er]; exact hE⟩
      have z := zaW_e (L := L) (xs := xs) (d := d + 7) (I := Ik) (J := J) (n := n) (t := t) (w3 := w3) hG (by omega) y1 y5 (by omega) (by omega)
      rw [ekf] at z
      exact z
    | succ j jh =>
      intro k t w3 Ik hk et hrk hmk hN
      obtain ⟨tN, htN⟩ : ∃ tN, zT w = tN + 1 + k := ⟨zT w - 1 - k, by omega⟩
      have et' : t.toInt = tN := by omega
      have tl : tN < zT w := by omega
      have q1 : zT w - (k + 1) = tN := by omega
      have q2 : zT w - k = tN + 1 := by omega
      have hNb : ∀ y, zI w y → 0 ≤ (Ik 111 y).toInt ∧ (Ik 111 y).toInt ≤ 1000000 := fun y hy => by
        have b := zk_b hK _ _ _ (hN y hy).1
        omega
      have lp2 : ∀ (f c : Nat) (x : Int32) (I1 : Nat → Nat → Int32), c + f = M → x.toInt = c → zRf w I1 → (I1 86 47).toInt = 0 → (∀ y, I1 111 y = Ik 111 y) → (∀ y, y < c → zx (zk w (k + 1) y) (I1 110 y).toInt) → ∃ I' : Nat → Nat → Int32, (∀ (v : Option Value) (h' : xH), xEv L xs (d + 8) 199 82 [.ref 86, .int n, .int t, .int 0] [] (124, I', J, R) v h' → xEv L xs (d + 8) 199 43 [.ref 86, .int n, .int t, .int x] [] (124, I1, J, R) v h') ∧ zRf w I' ∧ (I' 86 47).toInt = 0 ∧ (∀ y, y < M → zx (zk w (k + 1) y) (I' 110 y).toInt) := by
        intro f
        induction f with
        | zero =>
          intro c x I1 hc ex hr1 hm1 h111 h110
          have e : c = M := by omega
          rw [e] at h110
          exact ⟨I1, fun v h' hk => zaW_2e hG (by omega) hk, hr1, hm1, h110⟩
        | succ f fh =>
          intro c x I1 hc ex hr1 hm1 h111 h110
          have ex' : (x + 1).toInt = (c + 1 : Nat) := by rw [i_add1 (by omega)]; omega
          have ecx := clamp_s (i := x) (by omega)
          have ekx : x.toNatClampNeg = c := by omega
          have hIc := Mi c (by omega)
          obtain ⟨I2, y1, y2, y3⟩ := zpo_run (L := L) (xs := xs) (d := d + 7) (I := I1) (J := J) hG k4 hr1 ex
          have hr2 : zRf w (uI I2 86 46 0) := zRf_e hr1 (fun c' q g1 g2 g3 => by rw [uI_n _ _ (by omega)]; exact y3 c' q (by omega))
          obtain ⟨I3, y4, y5⟩ := zta_run_b (L := L) (xs := xs) (d := d) (J := J) hG hK (N := Ik 111) hNb et' tl 4 c (fun _ => false) 0 (uI I2 86 46 0) (zun_4 w _) (fun m _ => tb_0 m) hIc (fun m hm => by rw [uI_n _ _ (by omega)]; exact y2 m hm) hr2 ⟨by rw [uI_n _ _ (by omega), y3 86 47 (by omega)]; exact hm1, fun y _ => by rw [uI_n _ _ (by omega), y3 111 y (by omega)]; exact h111 y⟩
          obtain ⟨f1, f2, f3, f4⟩ := y5
          have fr : ∀ c' q, c' ≠ 114 → ¬ (c' = 86 ∧ q = 46) → I3 c' q = I1 c' q := fun c' q g1 g2 => by rw [f1 c' q g2, uI_n _ _ g2, y3 c' q g1]
          rw [uI_s, e0] at f4
          have vc : 0 ≤ zVt w tN (Ik 111) c := by
            have a := zi_b hK (tN + 1) c
            have b := hNb c hIc
            unfold zVt
            omega
          have at' : ∃ y, zY w tN c y ∧ (I3 86 46).toInt = zVt w tN (Ik 111) y := by
            rcases f4 with f4 | ⟨y, g1, g2⟩
            · have b := f3 c (zY_r w tN c)
              exact ⟨c, zY_r w tN c, by omega⟩
            · exact ⟨y, g1, g2⟩
          have best : zx (zk w (k + 1) c) (I3 86 46).toInt := by
            obtain ⟨y, g1, g2⟩ := at'
            refine ⟨⟨y, (Ik 111 y).toInt, by rw [q1]; exact g1, (hN y (zv_I hK tl _ _ _ hIc g1)).1, by rw [q2]; exact g2⟩, ?_⟩
            rintro v ⟨y', u, a1, a2, a3⟩
            rw [q1] at a1
            rw [q2] at a3
            have b := (hN y' (zv_I hK tl _ _ _ hIc a1)).2 u a2
            have b2 := f3 y' a1
            unfold zVt at b2
            omega
          obtain ⟨I', z1, z2, z3, z4⟩ := fh (c + 1) (x + 1) (uI I3 110 c (I3 86 46)) (by omega) ex' (zRf_e hr1 (fun c' q g1 g2 g3 => by rw [uI_n _ _ (by omega)]; exact fr c' q (by omega) (by omega))) (by rw [uI_n _ _ (by omega), fr 86 47 (by omega) (by omega)]; exact hm1) (fun y => by rw [uI_n _ _ (by omega), fr 111 y (by omega) (by omega)]; exact h111 y) (fun y hy => by
            by_cases g : y = c
            · rw [g, uI_s]
              exact best
            · rw [uI_n _ _ (by omega), fr 110 y (by omega) (by omega)]
              exact h110 y (by omega))
          exact ⟨I', fun v h' hk => zaW_2y hG (by omega) y1 y4 (by omega) (by omega) (by rw [ekx]; exact z1 v h' hk), z2, z3, z4⟩
      obtain ⟨I2, x1, hr2, hm2, h110⟩ := lp2 M 0 0 Ik (by omega) (by decide) hrk hmk (fun _ => rfl) (fun y hy => absurd hy (by omega))
      obtain ⟨dx, hdx⟩ : ∃ dx, t + (-1) = dx := ⟨_, rfl⟩
      have edx : dx.toInt = (zT w : Int) - 1 - (k + 1 : Nat) := by
        rw [← hdx, i_add (by rw [em]; omega) (by rw [em]; omega), em]
        omega
      have lp3 : ∀ (f c : Nat) (x : Int32) (I1 : Nat → Nat → Int32), c + f = M → x.toInt = c → zRf w I1 → (I1 86 47).toInt = 0 → (∀ y, I1 110 y = I2 110 y) → (∀ y, y < c → I1 111 y = I2 110 y) → ∃ (I' : Nat → Nat → Int32) (w3' : Value), (∀ (v : Option Value) (h' : xH), xEv L xs (d + 8) 199 37 [.ref 86, .int n, .int dx, w3'] [] (124, I', J, R) v h' → xEv L xs (d + 8) 199 82 [.ref 86, .int n, .int t, .int x] [] (124, I1, J, R) v h') ∧ zRf w I' ∧ (I' 86 47).toInt = 0 ∧ (∀ y, y < M → I' 111 y = I2 110 y) := by
        intro f
        induction f with
        | zero =>
          intro c x I1 hc ex hr1 hm1 g110 g111
          have e : c = M := by omega
          rw [e] at g111
          exact ⟨I1, .int x, fun v h' hk => zaW_3e hG (by omega) hdx hk, hr1, hm1, g111⟩
        | succ f fh =>
          intro c x I1 hc ex hr1 hm1 g110 g111
          have ex' : (x + 1).toInt = (c + 1 : Nat) := by rw [i_add1 (by omega)]; omega
          have ecx := clamp_s (i := x) (by omega)
          have ekx : x.toNatClampNeg = c := by omega
          obtain ⟨I', w3', z1, z2, z3, z4⟩ := fh (c + 1) (x + 1) (uI I1 111 c (I1 110 c)) (by omega) ex' (zRf_e hr1 (fun c' q g1 g2 g3 => uI_n _ _ (by omega))) (by rw [uI_n _ _ (by omega)]; exact hm1) (fun y => by rw [uI_n _ _ (by omega)]; exact g110 y) (fun y hy => by
            by_cases g : y = c
            · rw [g, uI_s]
              exact g110 c
            · rw [uI_n _ _ (by omega)]
              exact g111 y (by omega))
          exact ⟨I', w3', fun v h' hk => zaW_3y hG (by omega) (by omega) (by omega) (by omega) (by omega) (by rw [ekx]; exact z1 v h' hk), z2, z3, z4⟩
      obtain ⟨I3, w3', x2, hr3, hm3, h111⟩ := lp3 M 0 0 I2 (by omega) (by decide) hr2 hm2 (fun _ => rfl) (fun y hy => absurd hy (by omega))
      obtain ⟨r, I', z1, z2⟩ := jh (k + 1) dx w3' I3 (by omega) edx hr3 hm3 (fun y hy => by rw [h111 y (iM y hy)]; exact h110 y (iM y hy))
      exact ⟨r, I', zaW_t hG (by omega) (x1 _ _ (x2 _ _ z1)), z2⟩
  have lp1 : ∀ (f c : Nat) (x : Int32) (I1 : Nat → Nat → Int32), c + f = M → x.toInt = c → zRf w I1 → (I1 86 47).toInt = 0 → (∀ y, y < c → I1 111 y = 0) → ∃ (I' : Nat → Nat → Int32) (t : Int32), (∀ (v : Option Value) (h' : xH), xEv L xs (d + 8) 199 37 [.ref 86, .int n, .int t, xmk] [] (124, I', J, R) v h' → xEv L xs (d + 8) 199 12 [.ref 86, .int n, .int x, xmk] [] (124, I1, J, R) v h') ∧ zRf w I' ∧ (I' 86 47).toInt = 0 ∧ t.toInt = (zT w : Int) - 1 ∧ (∀ y, y < M → I' 111 y = 0) := by
    intro f
    induction f with
    | zero =>
      intro c x I1 hc ex hr1 hm1 h111
      have e : c = M := by omega
      rw [e] at h111
      have h26 := hr1.1.2.2
      exact ⟨I1, (I1 86 26) - 1, fun v h' hk => zaW_1e hG (by omega) hk, hr1, hm1, by rw [i_sub (by rw [e1]; omega) (by rw [e1]; omega), e1, h26], h111⟩
    | succ f fh =>
      intro c x I1 hc ex hr1 hm1 h111
      have ex' : (x + 1).toInt = (c + 1 : Nat) := by rw [i_add1 (by omega)]; omega
      have ecx := clamp_s (i := x) (by omega)
      have ekx : x.toNatClampNeg = c := by omega
      obtain ⟨I', t, z1, z2⟩ := fh (c + 1) (x + 1) (uI I1 111 c 0) (by omega) ex' (zRf_e hr1 (fun c' q g1 g2 g3 => uI_n _ _ (by omega))) (by rw [uI_n _ _ (by omega)]; exact hm1) (fun y hy => by
        by_cases g : y = c
        · rw [g, uI_s]
        · rw [uI_n _ _ (by omega)]
          exact h111 y (by omega))
      exact ⟨I', t, fun v h' hk => zaW_1y hG (by omega) (by omega) (by omega) (by rw [ekx]; exact z1 v h' hk), z2⟩
  obtain ⟨I1, t, x1, hr1, hm1, et, h111⟩ := lp1 M 0 0 (uI I 86 47 0) (by omega) (by decide) (zRf_e hr (fun c' q g1 g2 g3 => uI_n _ _ (by omega))) (by rw [uI_s]; decide) (fun y hy => absurd hy (by omega))
  obtain ⟨r, I', z1, z2⟩ := lpT (zT w) 0 t xmk I1 (by omega) (by rw [et]; omega) hr1 hm1 (fun y hy => by
    rw [h111 y (iM y hy), e0]
    exact ⟨rfl, fun v (hv : v = 0) => by omega⟩)
  exact ⟨r, I', zaW_s hG yn (x1 _ _ z1), z2⟩
/-- together at tau -/
def zht (w : zW) (u : Int32) (q s : Nat) : Prop := ∃ y, zr w s y ∧ ∀ n, n < zN w → tb u n = true → zd y n = q
theorem zto_run {L : Nat} {xs : Nat → Int32} {d : Nat} {I : Nat → Nat → Int32} {J : Nat → Nat → Int64} {R : Nat → Nat → Nat} (hG : aGd R) {w : zW} (hK : zK w) (h0 : zV w (zE w)) (hr : zRf w I) (u q : Int32) :
    (¬ (1 ≤ u.toInt ∧ u.toInt < (1 <<< ((I 88 2) &&& 31)).toInt ∧ 0 ≤ q.toInt ∧ q.toInt < zP w) ∧ xEv L xs (d + 8) 208 0 [.ref 86, .int u, .int q, xmk, xmk, xmk, xmk, xmk] [] (124, I, J, R) (some (.int (-2))) (124, I, J, R)) ∨
    ((1 ≤ u.toInt ∧ u.toInt < (1 <<< ((I 88 2) &&& 31)).toInt ∧ 0 ≤ q.toInt ∧ q.toInt < zP w) ∧ ∃ (r : Int32) (I' : Nat → Nat → Int32), xEv L xs (d + 8) 208 0 [.ref 86, .int u, .int q, xmk, xmk, xmk, xmk, xmk] [] (124, I, J, R) (some (.int r)) (124, I', J, R) ∧ ((zht w u q.toNatClampNeg 0 ∧ r = -4) ∨ (¬ zht w u q.toNatClampNeg 0 ∧ ((r = -1 ∧ ∀ t, t < zT w → ¬ zht w u q.toNatClampNeg (t + 1)) ∨ ∃ t, t < zT w ∧ r.toInt = t ∧ zht w u q.toNatClampNeg (t + 1) ∧ ∀ t', t' < t → ¬ zht w u q.toNatClampNeg (t' + 1))))) := by
  have k4 := hK.1
  have k64 := hK.2.2.1
  have e0 : (0 : Int32).toInt = 0 := by decide
  by_cases hu1 : u.toInt < 1
  · exact Or.inl ⟨fun h => by omega, zto_r0 hG hu1⟩
  by_cases hu2 : u.toInt ≥ (1 <<< ((I 88 2) &&& 31)).toInt
  · exact Or.inl ⟨fun h => by omega, zto_r1 hG (by omega) hu2⟩
  rcases ip_run (L := L) (xs := xs) (d := d + 6) (I := I) (J := J) hG hr.1.2.1 q with ⟨hq, yq⟩ | ⟨hq, yq⟩
  rotate_left
  · exact Or.inl ⟨fun h => hq ⟨h.2.2.1, h.2.2.2⟩, zto_r2 hG (by omega) (by omega) yq⟩
  refine Or.inr ⟨⟨by omega, by omega, hq.1, hq.2⟩, ?_⟩
  have ecq := clamp_s (i := q) hq.1
  obtain ⟨qN, hqN⟩ : ∃ qN, q.toNatClampNeg = qN := ⟨_, rfl⟩
  have eq : q.toInt = qN := by omega
  rw [hqN]
  obtain ⟨n, yn, en⟩ := zst_run (L := L) (xs := xs) (d := d + 7) (I := I) (J := J) hG k4 hr
  have M24 := z7_M (zN w) k4
  have iM : ∀ y, zI w y → y < 7 ^ zN w := fun y hy => zI_lt k4 hy
  have Mi : ∀ y, y < 7 ^ zN w → zI w y := fun y hy => zI_of k4 hy
  obtain ⟨M, hM⟩ : ∃ M, 7 ^ zN w = M := ⟨_, rfl⟩
  rw [hM] at en M24 iM Mi
  obtain ⟨f, I1, y1, ef, -, y4⟩ := zfs_run (L := L) (xs := xs) (d := d + 6) (I := I) (J := J) hG hK hr
  have lE := zE_lt hK
  have hr1 : zRf w I1 := zRf_e hr (fun c k _ g2 _ => y4 c k (by omega))
  obtain ⟨o, I2, y5, y6, y7⟩ := zaw_run (L := L) (xs := xs) (d := d + 6) (I := I1) (J := J) hG k4 hr1 (u := u) ef eq
  have hit0 : zht w u qN 0 ↔ ∀ n, n < zN w → tb u n = true → zd (zE w) n = qN := by
    constructor
    · rintro ⟨y, h1, h2⟩
      rw [zr_0.mp h1] at h2
      exact h2
    · intro h
      exact ⟨zE w, zr_0.mpr rfl, h⟩
  rcases y7 with ⟨rfl, g⟩ | ⟨rfl, g⟩
  · exact ⟨-4, I2, zto_s hG (by omega) (by omega) yq yn y1 y5, Or.inl ⟨hit0.mpr g, rfl⟩⟩
  have no0 : ¬ zht w u qN 0 := fun h => g (hit0.mp h)
  have hr2 : zRf w (uI I2 86 47 1) := zRf_e hr1 (fun c k g1 g2 g3 => by rw [uI_n _ _ (by omega)]; exact y6 c k (by omega))
  have b0 : vp_nar .boolean 0 = 0 := by decide
  have b1 : vp_nar .boolean 1 = 1 := by decide
  -- the row at first
  have lp1 : ∀ (j c : Nat) (x : Int32) (Ik : Nat → Nat → Int32), c + j = M → x.toInt = c → zRf w Ik → (Ik 86 47).toInt ≠ 0 → (∀ y, y < c → (y = zE w → Ik 112 y = 1) ∧ (y ≠ zE w → Ik 112 y = 0)) → ∃ I' : Nat → Nat → Int32, (∀ (v : Option Value) (h' : xH), xEv L xs (d + 8) 208 95 [.ref 86, .int u, .int q, .int n, .int f, .int 0, xmk, xmk] [] (124, I', J, R) v h' → xEv L xs (d + 8) 208 61 [.ref 86, .int u, .int q, .int n, .int f, .int x, xmk, xmk] [] (124, Ik, J, R) v h') ∧ zRf w I' ∧ (I' 86 47).toInt ≠ 0 ∧ (∀ y, y < M → (y = zE w → I' 112 y = 1) ∧ (y ≠ zE w → I' 112 y = 0)) := by
    intro j
    induction j with
    | zero =>
      intro c x Ik hc ex hrk hmk h
      have e : c = M := by omega
      rw [e] at h
      exact ⟨Ik, fun v h' hk => zto_1e hG (by omega) hk, hrk, hmk, h⟩
    | succ j jh =>
      intro c x Ik hc ex hrk hmk h
      have ex' : (x + 1).toInt = (c + 1 : Nat) := by rw [i_add1 (by omega)]; omega
      have ecx := clamp_s (i := x) (by omega)
      have ekx : x.toNatClampNeg = c := by omega
      by_cases ge : c = zE w
      · obtain ⟨I', z1, z2⟩ := jh (c + 1) (x + 1) (uI Ik 112 c 1) (by omega) ex' (zRf_e hrk (fun c' k g1 g2 g3 => uI_n _ _ (by omega))) (by rw [uI_n _ _ (by omega)]; exact hmk) (fun y hy => by
          by_cases g : y = c
          · rw [g, uI_s]
            exact ⟨fun _ => rfl, fun z => absurd ge z⟩
          · rw [uI_n _ _ (by omega)]
            exact h y (by omega))
        exact ⟨I', fun v h' hk => zto_1a hG (by omega) (by omega) (by omega) (by omega) (by rw [ekx, b1]; exact z1 v h' hk), z2⟩
      · obtain ⟨I', z1, z2⟩ := jh (c + 1) (x + 1) (uI Ik 112 c 0) (by omega) ex' (zRf_e hrk (fun c' k g1 g2 g3 => uI_n _ _ (by omega))) (by rw [uI_n _ _ (by omega)]; exact hmk) (fun y hy => by
          by_cases g : y = c
          · rw [g, uI_s]
            exact ⟨fun z => absurd z ge, fun _ => rfl⟩
          · rw [uI_n _ _ (by omega)]
            exact h y (by omega))
        exact ⟨I', fun v h' hk => zto_1b hG (by omega) (by omega) (by omega) (by omega) (by rw [ekx, b0]; exact z1 v h' hk), z2⟩
  -- all times
  have lpT : ∀ (j tN : Nat) (t : Int32) (w6 w7 : Value) (Ik : Nat → Nat → Int32), tN + j = zT w → t.toInt = tN → zRf w Ik → (Ik 86 47).toInt ≠ 0 → (∀ y, zI w y → (zr w tN y → Ik 112 y = 1) ∧ (¬ zr w tN y → Ik 112 y = 0)) → (∀ t', t' < tN → ¬ zht w u qN (t' + 1)) → ∃ (r : Int32) (I' : Nat → Nat → Int32), xEv L xs (d + 8) 208 95 [.ref 86, .int u, .int q, .int n, .int f, .int t, w6, w7] [] (124, Ik, J, R) (some (.int r)) (124, I', J, R) ∧ ((r = -1 ∧ ∀ t, t < zT w → ¬ zht w u qN (t + 1)) ∨ ∃ t, t < zT w ∧ r.toInt = t ∧ zht w u qN (t + 1) ∧ ∀ t', t' < t → ¬ zht w u qN (t' + 1)) := by
    intro j
    induction j with
    | zero =>
      intro tN t w6 w7 Ik hj et hrk hmk h112 hno
      have e : tN = zT w := by omega
      rw [e] at hno
      exact ⟨-1, Ik, zto_x hG (by rw [hrk.1.2.2]; omega), Or.inl ⟨rfl, hno⟩⟩
    | succ j jh =>
      intro tN t w6 w7 Ik hj et hrk hmk h112 hno
      have tl : tN < zT w := by omega
      have et' : (t + 1).toInt = (tN + 1 : Nat) := by rw [i_add1 (by omega)]; omega
      -- nothing is next
      have lp2 : ∀ (f' c : Nat) (x : Int32) (Im : Nat → Nat → Int32), c + f' = M → x.toInt = c → (∀ c' k, c' ≠ 113 → Im c' k = Ik c' k) → (∀ y, y < c → Im 113 y = 0) → ∃ (I' : Nat → Nat → Int32), (∀ (v : Option Value) (h' : xH), xEv L xs (d + 8) 208 130 [.ref 86, .int u, .int q, .int n, .int f, .int t, .int 0, w7] [] (124, I', J, R) v h' → xEv L xs (d + 8) 208 107 [.ref 86, .int u, .int q, .int n, .int f, .int t, .int x, w7] [] (124, Im, J, R) v h') ∧ (∀ c' k, c' ≠ 113 → I' c' k = Ik c' k) ∧ (∀ y, y < M → I' 113 y = 0) := by
        intro f'
        induction f' with
        | zero =>
          intro c x Im hc ex hf h
          have e : c = M := by omega
          rw [e] at h
          exact ⟨Im, fun v h' hk => zto_2e hG (by omega) hk, hf, h⟩
        | succ f' fh =>
          intro c x Im hc ex hf h
          have ex' : (x + 1).toInt = (c + 1 : Nat) := by rw [i_add1 (by omega)]; omega
          have ecx := clamp_s (i := x) (by omega)
          have ekx : x.toNatClampNeg = c := by omega
          obtain ⟨I', z1, z2⟩ := fh (c + 1) (x + 1) (uI Im 113 c 0) (by omega) ex' (fun c' k hc => by rw [uI_c _ _ _ hc]; exact hf c' k hc) (fun y hy => by
            by_cases g : y = c
            · rw [g, uI_s]
            · rw [uI_n _ _ (by omega)]
              exact h y (by omega))
          exact ⟨I', fun v h' hk => zto_2y hG (by omega) (by omega) (by omega) (by rw [ekx, b0]; exact z1 v h' hk), z2⟩
      obtain ⟨Ia, xa, fa, ha⟩ := lp2 M 0 0 Ik (by omega) (by decide) (fun _ _ _ => rfl) (fun y hy => absurd hy (by omega))
      -- what comes of each
      have lp3 : ∀ (f' c : Nat) (x : Int32) (Im : Nat → Nat → Int32), c + f' = M → x.toInt = c → zRf w Im → (Im 86 47).toInt ≠ 0 → (∀ y, Im 112 y = Ik 112 y) → (∀ y, y < M → ((∃ x, x < c ∧ zr w tN x ∧ zY w tN x y) → Im 113 y = 1) ∧ (¬ (∃ x, x < c ∧ zr w tN x ∧ zY w tN x y) → Im 113 y = 0)) → ∃ (I' : Nat → Nat → Int32), (∀ (v : Option Value) (h' : xH), xEv L xs (d + 8) 208 174 [.ref 86, .int u, .int q, .int n, .int f, .int t, .int 0, .int 0] [] (124, I', J, R) v h' → xEv L xs (d + 8) 208 130 [.ref 86, .int u, .int q, .int n, .int f, .int t, .int x, w7] [] (124, Im, J, R) v h') ∧ zRf w I' ∧ (I' 86 47).toInt ≠ 0 ∧ (∀ y, y < M → ((∃ x, x < M ∧ zr w tN x ∧ zY w tN x y) → I' 113 y = 1) ∧ (¬ (∃ x, x < M ∧ zr w tN x ∧ zY w tN x y) → I' 113 y = 0)) := by
        intro f'
        induction f' with
        | zero =>
          intro c x Im hc ex hrm hmm h12 h
          have e : c = M := by omega
          rw [e] at h
          exact ⟨Im, fun v h' hk => zto_3e hG (by omega) hk, hrm, hmm, h⟩
        | succ f' fh =>
          intro c x Im hc ex hrm hmm h12 h
          have ex' : (x + 1).toInt = (c + 1 : Nat) := by rw [i_add1 (by omega)]; omega
          have ecx := clamp_s (i := x) (by omega)
          have ekx : x.toNatClampNeg = c := by omega
          have hIc := Mi c (by omega)
          obtain ⟨r1, r2⟩ := h112 c hIc
          by_cases gr : zr w tN c
          · obtain ⟨I3, z1, z2, z3⟩ := zpo_run (L := L) (xs := xs) (d := d + 7) (I := Im) (J := J) hG k4 hrm ex
            obtain ⟨I4, z4, z5⟩ := zta_run_m (L := L) (xs := xs) (d := d) (J := J) hG hK et tl 4 c (fun _ => false) 0 I3 (zun_4 w _) (fun m _ => tb_0 m) hIc z2 (zRf_e hrm (fun c' k g1 g2 g3 => z3 c' k (by omega))) (by rw [z3 86 47 (by omega)]; exact hmm)
            have fr : ∀ c' k, c' ≠ 113 → c' ≠ 114 → I4 c' k = Im c' k := fun c' k g1 g2 => (z5.1 c' k g1).trans (z3 c' k g2)
            obtain ⟨I', w1, w2⟩ := fh (c + 1) (x + 1) I4 (by omega) ex' (zRf_e hrm (fun c' k g1 g2 g3 => fr c' k (by omega) (by omega))) (by rw [fr 86 47 (by omega) (by omega)]; exact hmm) (fun y => by rw [fr 112 y (by omega) (by omega)]; exact h12 y) (fun y hy => by
              obtain ⟨p1, p2⟩ := z5.2 y (by omega)
              obtain ⟨o1, o2⟩ := h y hy
              rw [z3 113 y (by omega)] at p2
              constructor
              · rintro ⟨x', a1, a2, a3⟩
                by_cases gy : zY w tN c y
                · exact p1 gy
                · rw [p2 gy]
                  refine o1 ⟨x', Classical.byContradiction fun z => ?_, a2, a3⟩
                  have e : x' = c := by omega
                  rw [e] at a3
                  exact gy a3
              · intro no
                have gy : ¬ zY w tN c y := fun z => no ⟨c, by omega, gr, z⟩
                rw [p2 gy]
                exact o2 (fun ⟨x', a1, a2, a3⟩ => no ⟨x', by omega, a2, a3⟩))
            exact ⟨I', fun v h' hk => zto_3y hG (by omega) (by omega) (by omega) (by rw [ekx, h12, r1 gr]; decide) z1 z4 (w1 v h' hk), w2⟩
          · obtain ⟨I', w1, w2⟩ := fh (c + 1) (x + 1) Im (by omega) ex' hrm hmm h12 (fun y hy => by
              obtain ⟨o1, o2⟩ := h y hy
              constructor
              · rintro ⟨x', a1, a2, a3⟩
                refine o1 ⟨x', Classical.byContradiction fun z => ?_, a2, a3⟩
                have e : x' = c := by omega
                rw [e] at a2
                exact gr a2
              · intro no
                exact o2 (fun ⟨x', a1, a2, a3⟩ => no ⟨x', by omega, a2, a3⟩))
            exact ⟨I', fun v h' hk => zto_3n hG (by omega) (by omega) (by omega) (by rw [ekx, h12, r2 gr]; decide) (w1 v h' hk), w2⟩
      obtain ⟨Ib, xb, hrb, hmb, hb⟩ := lp3 M 0 0 Ia (by omega) (by decide) (zRf_e hrk (fun c' k g1 g2 g3 => fa c' k (by omega))) (by rw [fa 86 47 (by omega)]; exact hmk) (fun y => fa 112 y (by omega)) (fun y hy => ⟨fun ⟨x', a1, _, _⟩ => absurd a1 (by omega), fun _ => ha y hy⟩)
      have hb' : ∀ y, y < M → (zr w (tN + 1) y → Ib 113 y = 1) ∧ (¬ zr w (tN + 1) y → Ib 113 y = 0) := fun y hy => by
        obtain ⟨o1, o2⟩ := hb y hy
        constructor
        · intro z
          obtain ⟨x', a1, a2⟩ := zr_s.mp z
          exact o1 ⟨x', iM x' (zr_V hK h0 (by omega) a1).1, a1, a2⟩
        · intro z
          exact o2 (fun ⟨x', _, a1, a2⟩ => z (zr_s.mpr ⟨x', a1, a2⟩))
      have nb : ∀ y, y < M → vp_nar .boolean (Ib 113 y) = Ib 113 y := fun y hy => by
        obtain ⟨o1, o2⟩ := hb' y hy
        by_cases z : zr w (tN + 1) y
        · rw [o1 z, b1]
        · rw [o2 z, b0]
      -- is it found
      have lp4 : ∀ (f' c : Nat) (o x : Int32) (Im : Nat → Nat → Int32), c + f' = M → x.toInt = c → zRf w Im → (Im 86 47).toInt ≠ 0 → (∀ y, Im 113 y = Ib 113 y) → (∀ y, y < c → Im 112 y = Ib 113 y) → ((o = 1 ∧ ∃ y, y < c ∧ zr w (tN + 1) y ∧ ∀ n, n < zN w → tb u n = true → zd y n = qN) ∨ (o = 0 ∧ ¬ ∃ y, y < c ∧ zr w (tN + 1) y ∧ ∀ n, n < zN w → tb u n = true → zd y n = qN)) → ∃ (o' x' : Int32) (I' : Nat → Nat → Int32), (∀ (v : Option Value) (h' : xH), xEv L xs (d + 8) 208 174 [.ref 86, .int u, .int q, .int n, .int f, .int t, .int o', .int x'] [] (124, I', J, R) v h' → xEv L xs (d + 8) 208 174 [.ref 86, .int u, .int q, .int n, .int f, .int t, .int o, .int x] [] (124, Im, J, R) v h') ∧ x'.toInt ≥ n.toInt ∧ zRf w I' ∧ (I' 86 47).toInt ≠ 0 ∧ (∀ y, y < M → I' 112 y = Ib 113 y) ∧ ((o' = 1 ∧ ∃ y, y < M ∧ zr w (tN + 1) y ∧ ∀ n, n < zN w → tb u n = true → zd y n = qN) ∨ (o' = 0 ∧ ¬ ∃ y, y < M ∧ zr w (tN + 1) y ∧ ∀ n, n < zN w → tb u n = true → zd y n = qN)) := by
        intro f'
        induction f' with
        | zero =>
          intro c o x Im hc ex hrm hmm h13 h12 ho
          have e : c = M := by omega
          rw [e] at h12 ho
          exact ⟨o, x, Im, fun v h' hk => hk, by omega, hrm, hmm, h12, ho⟩
        | succ f' fh =>
          intro c o x Im hc ex hrm hmm h13 h12 ho
          have ex' : (x + 1).toInt = (c + 1 : Nat) := by rw [i_add1 (by omega)]; omega
          have ecx := clamp_s (i := x) (by omega)
          have ekx : x.toNatClampNeg = c := by omega
          have nbc : vp_nar .boolean (Im 113 c) = Ib 113 c := by rw [h13]; exact nb c (by omega)
          have hr' : zRf w (uI Im 112 c (Ib 113 c)) := zRf_e hrm (fun c' k g1 g2 g3 => uI_n _ _ (by omega))
          have hm' : ((uI Im 112 c (Ib 113 c)) 86 47).toInt ≠ 0 := by rw [uI_n _ _ (by omega)]; exact hmm
          have h13' : ∀ y, (uI Im 112 c (Ib 113 c)) 113 y = Ib 113 y := fun y => by rw [uI_n _ _ (by omega)]; exact h13 y
          have h12' : ∀ y, y < c + 1 → (uI Im 112 c (Ib 113 c)) 112 y = Ib 113 y := fun y hy => by
            by_cases g : y = c
            · rw [g, uI_s]
            · rw [uI_n _ _ (by omega)]
              exact h12 y (by omega)
          rcases ho with ⟨rfl, y0, a1, a2⟩ | ⟨rfl, no⟩
          · obtain ⟨o', x', I', z1, z2⟩ := fh (c + 1) 1 (x + 1) (uI Im 112 c (Ib 113 c)) (by omega) ex' hr' hm' h13' h12' (Or.inl ⟨rfl, y0, by omega, a2⟩)
            exact ⟨o', x', I', fun v h' hk => zto_4f hG (by omega) (by omega) (by omega) (by omega) (by omega) (by decide) (by rw [ekx, nbc]; exact z1 v h' hk), z2⟩
          obtain ⟨o1, o2⟩ := hb' c (by omega)
          by_cases gr : zr w (tN + 1) c
          · obtain ⟨rr, I5, z1, z2, z3⟩ := zaw_run (L := L) (xs := xs) (d := d + 6) (I := uI Im 112 c (Ib 113 c)) (J := J) hG k4 hr' (u := u) ex eq
            have s5 : zRf w I5 := zRf_e hr' (fun c' k g1 g2 g3 => z2 c' k (by omega))
            have m5 : (I5 86 47).toInt ≠ 0 := by rw [z2 86 47 (by omega)]; exact hm'
            have t5 : ∀ y, I5 113 y = Ib 113 y := fun y => (z2 113 y (by omega)).trans (h13' y)
            have u5 : ∀ y, y < c + 1 → I5 112 y = Ib 113 y := fun y hy => (z2 112 y (by omega)).trans (h12' y hy)
            have rd : ((uI Im 112 c (Ib 113 c)) 112 c).toInt ≠ 0 := by rw [uI_s, o1 gr]; decide
            rcases z3 with ⟨rfl, p⟩ | ⟨rfl, p⟩
            · obtain ⟨o', x', I', w1, w2⟩ := fh (c + 1) 1 (x + 1) I5 (by omega) ex' s5 m5 t5 u5 (Or.inl ⟨rfl, c, by omega, gr, p⟩)
              exact ⟨o', x', I', fun v h' hk => zto_4y hG (by omega) (by omega) (by omega) (by omega) (by omega) (by decide) (by omega) (by omega) (by rw [ekx, nbc]; exact rd) (by rw [ekx, nbc]; exact z1) (w1 v h' hk), w2⟩
            · obtain ⟨o', x', I', w1, w2⟩ := fh (c + 1) 0 (x + 1) I5 (by omega) ex' s5 m5 t5 u5 (Or.inr ⟨rfl, fun ⟨y, b1, b2, b3⟩ => by
                by_cases g : y = c
                · rw [g] at b3
                  exact p b3
                · exact no ⟨y, by omega, b2, b3⟩⟩)
              exact ⟨o', x', I', fun v h' hk => zto_4n hG (by omega) (by omega) (by omega) (by omega) (by omega) (by decide) (by omega) (by omega) (by rw [ekx, nbc]; exact rd) (by rw [ekx, nbc]; exact z1) (w1 v h' hk), w2⟩
          · obtain ⟨o', x', I', w1, w2⟩ := fh (c + 1) 0 (x + 1) (uI Im 112 c (Ib 113 c)) (by omega) ex' hr' hm' h13' h12' (Or.inr ⟨rfl, fun ⟨y, b1, b2, b3⟩ => by
              by_cases g : y = c
              · rw [g] at b2
                exact gr b2
              · exact no ⟨y, by omega, b2, b3⟩⟩)
            exact ⟨o', x', I', fun v h' hk => zto_4r hG (by omega) (by omega) (by omega) (by omega) (by omega) (by decide) (by omega) (by omega) (by rw [ekx, nbc, uI_s, o2 gr]; decide) (by rw [ekx, nbc]; exact w1 v h' hk), w2⟩
      obtain ⟨o', x', Ic, xc, exc, hrc, hmc, hc12, hoc⟩ := lp4 M 0 0 0 Ib (by omega) (by decide) hrb hmb (fun _ => rfl) (fun y hy => absurd hy (by omega)) (Or.inr ⟨rfl, fun ⟨y, b1, _⟩ => absurd b1 (by omega)⟩)
      rcases hoc with ⟨rfl, y0, -, a2, a3⟩ | ⟨rfl, no⟩
      · exact ⟨t, Ic, zto_y hG (by rw [hrk.1.2.2]; omega) (xa _ _ (xb _ _ (xc _ _ (zto_4z hG exc (by decide))))), Or.inr ⟨tN, tl, et, ⟨y0, a2, a3⟩, hno⟩⟩
      · obtain ⟨r, I', z1, z2⟩ := jh (tN + 1) (t + 1) (.int 0) (.int x') Ic (by omega) et' hrc hmc (fun y hy => by rw [hc12 y (iM y hy)]; exact hb' y (iM y hy)) (fun t' ht' => by
          by_cases g : t' = tN
          · rw [g]
            rintro ⟨y, b1, b2⟩
            exact no ⟨y, iM y (zr_V hK h0 (by omega) b1).1, b1, b2⟩
          · exact hno t' (by omega))
        exact ⟨r, I', zto_y hG (by rw [hrk.1.2.2]; omega) (xa _ _ (xb _ _ (xc _ _ (zto_4e hG exc (by decide) z1)))), z2⟩
  obtain ⟨Ia, xa, hra, hma, ha⟩ := lp1 M 0 0 (uI I2 86 47 1) (by omega) (by decide) hr2 (by rw [uI_s]; decide) (fun y hy => absurd hy (by omega))
  obtain ⟨r, I', z1, z2⟩ := lpT (zT w) 0 0 xmk xmk Ia (by omega) (by decide) hra hma (fun y hy => ⟨fun z => (ha y (iM y hy)).1 (zr_0.mp z), fun z => (ha y (iM y hy)).2 (fun e => z (zr_0.mpr e))⟩) (fun t' ht' => absurd ht' (by omega))
  exact ⟨r, I', zto_t hG (by omega) (by omega) yq yn y1 y5 (xa _ _ z1), Or.inr ⟨no0, z2⟩⟩
