set_option maxRecDepth 20000 in
theorem zy_s {L : Nat} {xs : Nat → Int32} {d : Nat} {I : Nat → Nat → Int32} {J : Nat → Nat → Int64} {R : Nat → Nat → Nat} {bb m : Int32} (hG : aGd R)  {v : Option Value} {h' : xH} (hk : xEv L xs d 213 5 [.ref 86, .int bb, .int m, .int 0, .int 0, xmk] [] (124, I, J, R) v h') : xEv L xs d 213 0 [.ref 86, .int bb, .int m, xmk, xmk, xmk] [] (124, I, J, R) v h' := by
  refine ev_go 4 (pc1 := 5) (lv1 := [.ref 86, .int bb, .int m, .int 0, .int 0, xmk]) (st1 := []) (h1 := (124, I, J, R)) rfl ?_
  exact hk
set_option maxRecDepth 20000 in
theorem zy_e {L : Nat} {xs : Nat → Int32} {d : Nat} {I : Nat → Nat → Int32} {J : Nat → Nat → Int64} {R : Nat → Nat → Nat} {bb m ov k : Int32} {w5 : Value} (hG : aGd R) (b1 : k.toInt ≥ m.toInt) : xEv L xs d 213 5 [.ref 86, .int bb, .int m, .int ov, .int k, w5] [] (124, I, J, R) none (124, I, J, R) := by
  refine ev_go 2 (pc1 := 8) (lv1 := [.ref 86, .int bb, .int m, .int ov, .int k, w5]) (st1 := [.int m, .int k]) (h1 := (124, I, J, R)) rfl ?_
  refine ev_br (b1 := true) rfl rfl (xcd_ge (x := k) (y := m) (by first | exact b1 | omega)) ?_
  exact ev_ret rfl rfl
set_option maxRecDepth 20000 in
theorem zy_l {L : Nat} {xs : Nat → Int32} {d : Nat} {I : Nat → Nat → Int32} {J : Nat → Nat → Int64} {R : Nat → Nat → Nat} {bb m ov k : Int32} {w5 : Value} (hG : aGd R) (b1 : k.toInt < m.toInt) (n1 : 0 ≤ k.toInt) (m1 : k.toInt < 402) (n2 : 0 ≤ k.toInt) (m2 : k.toInt < 402) {v : Option Value} {h' : xH} (hk : xEv L xs d 213 5 [.ref 86, .int bb, .int m, .int ((((I 116 k.toNatClampNeg) * bb) + ov) / 1000), .int (k + 1), .int (((I 116 k.toNatClampNeg) * bb) + ov)] [] (124, (uI I 116 k.toNatClampNeg ((((I 116 k.toNatClampNeg) * bb) + ov) - (((I 116 k.toNatClampNeg) * bb) + ov) / 1000 * 1000)), J, R) v h') : xEv L xs d 213 5 [.ref 86, .int bb, .int m, .int ov, .int k, w5] [] (124, I, J, R) v h' := by
  refine ev_go 2 (pc1 := 8) (lv1 := [.ref 86, .int bb, .int m, .int ov, .int k, w5]) (st1 := [.int m, .int k]) (h1 := (124, I, J, R)) rfl ?_
  refine ev_br (b1 := false) rfl rfl (xcd_nge (x := k) (y := m) (by first | exact b1 | omega)) ?_
  refine ev_go 1 (pc1 := 12) (lv1 := [.ref 86, .int bb, .int m, .int ov, .int k, w5]) (st1 := [.ref 86]) (h1 := (124, I, J, R)) rfl ?_
  refine ev_gf (c := 86) (t := 116) (X := R 86 50) rfl rfl (fun _ => rfl) rfl (hG 86 50 116 rfl rfl) ?_
  refine ev_go 1 (pc1 := 17) (lv1 := [.ref 86, .int bb, .int m, .int ov, .int k, w5]) (st1 := [.int k, .ref 116]) (h1 := (124, I, J, R)) rfl ?_
  refine ev_ild (n := 402) rfl rfl (fun _ => rfl) n1 m1 ?_
  refine ev_go 6 (pc1 := 25) (lv1 := [.ref 86, .int bb, .int m, .int ov, .int k, .int (((I 116 k.toNatClampNeg) * bb) + ov)]) (st1 := [.ref 86]) (h1 := (124, I, J, R)) rfl ?_
  refine ev_gf (c := 86) (t := 116) (X := R 86 50) rfl rfl (fun _ => rfl) rfl (hG 86 50 116 rfl rfl) ?_
  refine ev_go 3 (pc1 := 35) (lv1 := [.ref 86, .int bb, .int m, .int ov, .int k, .int (((I 116 k.toNatClampNeg) * bb) + ov)]) (st1 := [.int 1000, .int (((I 116 k.toNatClampNeg) * bb) + ov), .int k, .ref 116]) (h1 := (124, I, J, R)) rfl ?_
  refine ev_go 1 (pc1 := 36) (lv1 := [.ref 86, .int bb, .int m, .int ov, .int k, .int (((I 116 k.toNatClampNeg) * bb) + ov)]) (st1 := [.int ((((I 116 k.toNatClampNeg) * bb) + ov) - (((I 116 k.toNatClampNeg) * bb) + ov) / 1000 * 1000), .int k, .ref 116]) (h1 := (124, I, J, R)) rfl ?_
  refine ev_ist (n := 402) rfl rfl (fun _ => rfl) n2 m2 ?_
  refine ev_go 2 (pc1 := 42) (lv1 := [.ref 86, .int bb, .int m, .int ov, .int k, .int (((I 116 k.toNatClampNeg) * bb) + ov)]) (st1 := [.int 1000, .int (((I 116 k.toNatClampNeg) * bb) + ov)]) (h1 := (124, (uI I 116 k.toNatClampNeg ((((I 116 k.toNatClampNeg) * bb) + ov) - (((I 116 k.toNatClampNeg) * bb) + ov) / 1000 * 1000)), J, R)) rfl ?_
  refine ev_go 4 (pc1 := 5) (lv1 := [.ref 86, .int bb, .int m, .int ((((I 116 k.toNatClampNeg) * bb) + ov) / 1000), .int (k + 1), .int (((I 116 k.toNatClampNeg) * bb) + ov)]) (st1 := []) (h1 := (124, (uI I 116 k.toNatClampNeg ((((I 116 k.toNatClampNeg) * bb) + ov) - (((I 116 k.toNatClampNeg) * bb) + ov) / 1000 * 1000)), J, R)) rfl ?_
  exact hk
theorem zy_run {L : Nat} {xs : Nat → Int32} {d : Nat} {J : Nat → Nat → Int64} {R : Nat → Nat → Nat} (hG : aGd R) {bb m : Int32} {mN : Nat} (hm : m.toInt = mN) (hm2 : mN ≤ 402) (b0 : 0 ≤ bb.toInt) (b1 : bb.toInt ≤ 1000) (D : Nat → Int) : ∀ (f kN : Nat) (k ov : Int32) (w5 : Value) (I : Nat → Nat → Int32), kN + f = mN → k.toInt = kN → 0 ≤ ov.toInt → ov.toInt ≤ 999 → (∀ q, q < 402 → 0 ≤ (I 116 q).toInt ∧ (I 116 q).toInt < 1000) → (∀ q, kN ≤ q → (I 116 q).toInt = D q) → sT 3 (fun q => (I 116 q).toInt) kN + ov.toInt * tn (3 * kN) = bb.toInt * sT 3 D kN →
    ∃ (I' : Nat → Nat → Int32) (z : Int), xEv L xs d 213 5 [.ref 86, .int bb, .int m, .int ov, .int k, w5] [] (124, I, J, R) none (124, I', J, R) ∧ (∀ c q, ¬ (c = 116 ∧ q < mN) → I' c q = I c q) ∧ (∀ q, q < 402 → 0 ≤ (I' 116 q).toInt ∧ (I' 116 q).toInt < 1000) ∧ 0 ≤ z ∧ sT 3 (fun q => (I' 116 q).toInt) mN + z * tn (3 * mN) = bb.toInt * sT 3 D mN := by
  intro f
  induction f with
  | zero =>
    intro kN k ov w5 I hk ek o0 o1 hD hR hS
    have e : kN = mN := by omega
    subst e
    exact ⟨I, ov.toInt, zy_e hG (by omega), fun _ _ _ => rfl, hD, o0, hS⟩
  | succ f ih =>
    intro kN k ov w5 I hk ek o0 o1 hD hR hS
    have eck := clamp_s (i := k) (by omega)
    have ekk : k.toNatClampNeg = kN := by omega
    obtain ⟨x0, x1⟩ := hD kN (by omega)
    have hx := hR kN (Nat.le_refl _)
    have p0 := Int.mul_nonneg x0 b0
    have p1 := Int.mul_le_mul (show (I 116 kN).toInt ≤ 999 by omega) b1 b0 (by decide)
    have ev : (((I 116 k.toNatClampNeg) * bb) + ov).toInt = (I 116 kN).toInt * bb.toInt + ov.toInt := by
      rw [ekk]
      have em : ((I 116 kN) * bb).toInt = (I 116 kN).toInt * bb.toInt := i_mul (by omega) (by omega)
      rw [i_add (by omega) (by omega), em]
    obtain ⟨vv, hvv⟩ : ∃ vv, (((I 116 k.toNatClampNeg) * bb) + ov) = vv := ⟨_, rfl⟩
    rw [hvv] at ev
    have hk' : (k + 1).toInt = (kN + 1 : Nat) := by rw [i_add1 (by omega)]; omega
    have t1000 : (1000 : Int32).toInt = 1000 := by decide
    have eq := i_div (x := vv) (y := 1000) (by omega) (by omega)
    have er := i_rem (x := vv) (y := 1000) (by omega) (by omega)
    rw [t1000] at eq er
    obtain ⟨I', z, y1, y2, y3, y4, y5⟩ := ih (kN + 1) (k + 1) (vv / 1000) (.int vv) (uI I 116 kN (vv - vv / 1000 * 1000)) (by omega) hk' (by omega) (by omega) (fun q hq => by
        by_cases e : q = kN
        · rw [e, uI_s]
          omega
        · rw [uI_n _ _ (fun z => e z.2)]
          exact hD q hq) (fun q hq => by
        rw [uI_n _ _ (by omega)]
        exact hR q (by omega)) (by
        have e1 : sT 3 (fun q => ((uI I 116 kN (vv - vv / 1000 * 1000)) 116 q).toInt) kN = sT 3 (fun q => (I 116 q).toInt) kN := sT_c _ (fun i hi => by
          show ((uI I 116 kN (vv - vv / 1000 * 1000)) 116 i).toInt = _
          rw [uI_n _ _ (by omega)])
        rw [sT_s, sT_s, e1, tn_s, ← hx]
        show _ + ((uI I 116 kN (vv - vv / 1000 * 1000)) 116 kN).toInt * _ + _ = _
        rw [uI_s]
        refine sm_st hS ?_
        rw [tn_3]
        omega)
    refine ⟨I', z, zy_l hG (by omega) (by omega) (by omega) (by omega) (by omega) ?_, fun c q hc => ?_, y3, y4, y5⟩
    · rw [hvv, ekk]
      exact y1
    · rw [y2 c q hc, uI_n _ _ (by omega)]
/-- the product in the reference: k times -/
def zrR (V : Int) (k : Nat) (I : Nat → Nat → Int32) : Prop := (∀ q, q < 402 → 0 ≤ (I 116 q).toInt ∧ (I 116 q).toInt < 1000) ∧ (∀ q, k + 1 ≤ q → q < 402 → (I 116 q).toInt = 0) ∧ sT 3 (fun q => (I 116 q).toInt) (k + 1) = V ∧ V ≤ tn (3 * k)
theorem zy_one {L : Nat} {xs : Nat → Int32} {d : Nat} {I : Nat → Nat → Int32} {J : Nat → Nat → Int64} {R : Nat → Nat → Nat} (hG : aGd R) {bb m : Int32} {V : Int} {k : Nat} (hk : k < 400) (hm : m.toInt = (k + 2 : Nat)) (b0 : 0 ≤ bb.toInt) (b1 : bb.toInt ≤ 1000) (hV : zrR V k I) :
    ∃ I', xEv L xs d 213 0 [.ref 86, .int bb, .int m, xmk, xmk, xmk] [] (124, I, J, R) none (124, I', J, R) ∧ (∀ c q, c ≠ 116 → I' c q = I c q) ∧ zrR (bb.toInt * V) (k + 1) I' := by
  obtain ⟨v1, v2, v3, v4⟩ := hV
  obtain ⟨I', z, y1, y2, y3, y4, y5⟩ := zy_run (L := L) (xs := xs) (d := d) (J := J) hG hm (by omega) b0 b1 (fun q => (I 116 q).toInt) (k + 2) 0 0 0 xmk I (by omega) (by decide) (by decide) (by decide) v1 (fun _ _ => rfl) (by
    simp only [sT_0]
    rw [show (0 : Int32).toInt = 0 from by decide, Int.zero_mul, Int.mul_zero, Int.add_zero])
  have e2 : sT 3 (fun q => (I 116 q).toInt) (k + 2) = V := by
    rw [← v3]
    exact sT_z (k + 1) 1 (fun i h1 h2 => v2 i h1 (by omega))
  rw [e2] at y5
  have s0 := sT_b (e := 3) (f := fun q => (I' 116 q).toInt) (k + 2) (fun i hi => by
    have := y3 i (by omega)
    rw [tn_3]
    exact this)
  have sv := sT_b (e := 3) (f := fun q => (I 116 q).toInt) (k + 1) (fun i hi => by
    have := v1 i (by omega)
    rw [tn_3]
    exact this)
  rw [v3] at sv
  have hb := Int.mul_le_mul b1 v4 sv.1 (by decide)
  have e3 : tn (3 * (k + 1)) = 1000 * tn (3 * k) := by rw [tn_s, tn_3, Int.mul_comm]
  have e4 : tn (3 * (k + 2)) = 1000 * tn (3 * (k + 1)) := by rw [show 3 * (k + 2) = 3 * (k + 1 + 1) from rfl, tn_s, tn_3, Int.mul_comm]
  have hp := tn_pos (3 * k)
  have hz : z = 0 := by
    by_cases h : z = 0
    · exact h
    · have hz1 := Int.mul_le_mul_of_nonneg_right (show (1 : Int) ≤ z by omega) (Int.le_of_lt (tn_pos (3 * (k + 2))))
      rw [Int.one_mul] at hz1
      omega
  rw [hz, Int.zero_mul, Int.add_zero] at y5
  exact ⟨I', zy_s hG y1, fun c q hc => y2 c q (fun h => hc h.1), y3, fun q h1 h2 => (by rw [y2 116 q (by omega)]; exact v2 q (by omega) h2), y5, by rw [e3]; exact hb⟩
