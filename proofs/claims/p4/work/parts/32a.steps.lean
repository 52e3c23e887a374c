def aIntOuts (w : Nat) : Bool := (aOut w).all fun cs => match cs.1 with
  | some (Sum.inr (Sum.inl _)) => true
  | _ => false
/-- a call from outside, by its contract -/
theorem api {w : Nat} (hk : aOK w) (hi : aIntOuts w = true) {L : Nat} {xs : Nat → Int32} {d : Nat} {I : Nat → Nat → Int32} {J : Nat → Nat → Int64} {R : Nat → Nat → Nat} {vs : List Value} (hd : aDep w ≤ d) (hg : aGood (124, I, J, R)) (hA : aArgs (aIns w) vs) (hp : aPre w = []) : ∃ (r : Int32) (I1 : Nat → Nat → Int32) (J1 : Nat → Nat → Int64) (R1 : Nat → Nat → Nat), xEv L xs d (aJ w) 0 (xent vs (xml (aJ w))) [] (124, I, J, R) (some (.int r)) (124, I1, J1, R1) ∧ aGood (124, I1, J1, R1) ∧ aFr (aMod w) (124, I, J, R) (124, I1, J1, R1) ∧ ∃ cs ∈ aOut w, aCok ((124, I, J, R), vs) (some (.int r)) (124, I1, J1, R1) cs := by
  obtain ⟨v1, ⟨n1, I1, J1, R1⟩, he, hg1, hf1, cs, hcs, hc⟩ := hk L xs d vs (124, I, J, R) hd hg hA (by rw [hp]; exact fok0)
  have e1 : n1 = 124 := hg1.1
  subst e1
  have h1 := List.all_eq_true.mp hi cs hcs
  obtain ⟨a, rs, fs, us⟩ := cs
  rcases a with _ | a
  · cases h1
  rcases a with _ | ⟨lo, hi, o⟩ | a
  · cases h1
  · obtain ⟨⟨v2, q1, x, q2, q3, q4⟩, q5⟩ := hc
    subst q1
    subst q2
    exact ⟨x, I1, J1, R1, he, hg1, hf1, _, hcs, ⟨⟨_, rfl, x, rfl, q3, q4⟩, q5⟩⟩
  · rcases a with _ | _ <;> cases h1
/-- what a call leaves as it was -/
def kpP (m p : Nat) : Bool := !(Nat.testBit m p)
theorem kp_s {m p : Nat} (h : kpP m p = true) : Nat.testBit m p = false := by
  unfold kpP at h
  cases hb : Nat.testBit m p with
  | false => rfl
  | true => rw [hb] at h; cases h
theorem kp_i {m : Nat} {h h1 : xH} (f : aFr m h h1) {c k p : Nat} (e : aPid c k = p) (hk : kpP m p = true) : h1.2.1 c k = h.2.1 c k := (f c k (by show Nat.testBit m (aPid c k) = false; rw [e]; exact kp_s hk)).1
theorem kp_r {m : Nat} {h h1 : xH} (f : aFr m h h1) {c k p : Nat} (e : aPid c k = p) (hk : kpP m p = true) : h1.2.2.2 c k = h.2.2.2 c k := (f c k (by show Nat.testBit m (aPid c k) = false; rw [e]; exact kp_s hk)).2.2
theorem kp_l {m : Nat} {h h1 : xH} (f : aFr m h h1) {c k p : Nat} (e : aPid c k = p) (hk : kpP m p = true) : h1.2.2.1 c k = h.2.2.1 c k := (f c k (by show Nat.testBit m (aPid c k) = false; rw [e]; exact kp_s hk)).2.1
/-- the tape of both -/
def lwT (I : Nat → Nat → Int32) : Prop := (I 1 1).toInt = (I 86 1).toInt ∧ ∀ q : Nat, (q : Int) < (I 1 1).toInt → I 87 q &&& 255 = I 2 q
def lwR (R : Nat → Nat → Nat) : Prop := (R 0 8 = 4 ∧ R 0 9 = 24) ∨ (R 0 8 = 24 ∧ R 0 9 = 4)
def lwI (I : Nat → Nat → Int32) (R : Nat → Nat → Nat) : Prop := lwT I ∧ lwR R
def kpT (m : Nat) : Bool := kpP m 11 && kpP m 16 && kpP m 207 && kpP m 265
def kpR (m : Nat) : Bool := kpP m 8 && kpP m 9
theorem lwT_k {m : Nat} {I I1 : Nat → Nat → Int32} {J J1 : Nat → Nat → Int64} {R R1 : Nat → Nat → Nat} (f : aFr m (124, I, J, R) (124, I1, J1, R1)) (h : kpT m = true) (hT : lwT I) : lwT I1 := by
  unfold kpT at h
  simp only [Bool.and_eq_true] at h
  have e1 : I1 1 1 = I 1 1 := kp_i f (c := 1) (k := 1) rfl h.1.1.1
  have e2 : I1 86 1 = I 86 1 := kp_i f (c := 86) (k := 1) rfl h.1.2
  have e3 : ∀ q, I1 2 q = I 2 q := fun q => kp_i f (c := 2) (k := q) rfl h.1.1.2
  have e4 : ∀ q, I1 87 q = I 87 q := fun q => kp_i f (c := 87) (k := q) rfl h.2
  refine ⟨by rw [e1, e2]; exact hT.1, fun q hq => ?_⟩
  rw [e3, e4]
  rw [e1] at hq
  exact hT.2 q hq
theorem lwR_k {m : Nat} {I I1 : Nat → Nat → Int32} {J J1 : Nat → Nat → Int64} {R R1 : Nat → Nat → Nat} (f : aFr m (124, I, J, R) (124, I1, J1, R1)) (h : kpR m = true) (hR : lwR R) : lwR R1 := by
  unfold kpR at h
  simp only [Bool.and_eq_true] at h
  have e1 : R1 0 8 = R 0 8 := kp_r f (c := 0) (k := 8) rfl h.1
  have e2 : R1 0 9 = R 0 9 := kp_r f (c := 0) (k := 9) rfl h.2
  unfold lwR
  rw [e1, e2]
  exact hR
theorem lwT_0 {I : Nat → Nat → Int32} (h1 : 0 ≤ (I 1 1).toInt ∧ (I 1 1).toInt ≤ 0) (h2 : 0 ≤ (I 86 1).toInt ∧ (I 86 1).toInt ≤ 0) : lwT I := ⟨by omega, fun q hq => by omega⟩
theorem sp_feed {L : Nat} {xs : Nat → Int32} {I : Nat → Nat → Int32} {J : Nat → Nat → Int64} {R : Nat → Nat → Nat} (hg : aGood (124, I, J, R)) (hT : lwI I R) (a1 a2 a3 a4 a5 : Int32) : ∃ (r1 r2 : Int32) (I1 I2 : Nat → Nat → Int32) (J1 J2 : Nat → Nat → Int64) (R1 R2 : Nat → Nat → Nat), xEv L xs 19 14 0 [.ref 0, .int a1, .int a2, .int a3, .int a4, .int a5] [] (124, I, J, R) (some (.int r1)) (124, I1, J1, R1) ∧ xEv L xs 19 145 0 [.ref 86, .int a1, .int a2, .int a3, .int a4, .int a5, xmk, xmk, xmk] [] (124, I1, J1, R1) (some (.int r2)) (124, I2, J2, R2) ∧ aGood (124, I1, J1, R1) ∧ aGood (124, I2, J2, R2) ∧ lwI I2 R2 ∧ r2 = r1 := by
  obtain ⟨r1, I1, J1, R1, c1, g1, f1, cs1, m1, q1⟩ := api (ol_533 113 (by decide)) (by decide) (L := L) (xs := xs) (d := 19) (vs := [.ref 0, .int a1, .int a2, .int a3, .int a4, .int a5]) (by decide) hg ⟨g0_r (by decide), g0_i (aw _).1 (aw _).2, g0_i (aw _).1 (aw _).2, g0_i (aw _).1 (aw _).2, g0_i (aw _).1 (aw _).2, g0_i (aw _).1 (aw _).2, rfl⟩ rfl
  obtain ⟨r2, I2, J2, R2, c2, g2, f2, cs2, m2, q2⟩ := api (ol_533 114 (by decide)) (by decide) (L := L) (xs := xs) (d := 19) (vs := [.ref 86, .int a1, .int a2, .int a3, .int a4, .int a5]) (by decide) g1 ⟨g0_r (by decide), g0_i (aw _).1 (aw _).2, g0_i (aw _).1 (aw _).2, g0_i (aw _).1 (aw _).2, g0_i (aw _).1 (aw _).2, g0_i (aw _).1 (aw _).2, rfl⟩ rfl
  have hR2 : lwR R2 := lwR_k f2 (by decide) (lwR_k f1 (by decide) hT.2)
  have b1 := good_int hg 1 1 rfl
  have b2 : (aRng 1 1) = (0, 900) := rfl
  rw [b2] at b1
  dsimp only at b1
  obtain ⟨n, hn⟩ := Int.eq_ofNat_of_zero_le b1.1
  have hn' : (I 1 1).toInt = n := hn
  have p1 : I1 86 1 = I 86 1 := fr_int f1 86 1 rfl
  have p2 : I2 1 1 = I1 1 1 := fr_int f2 1 1 rfl
  have p3 : ∀ q, I1 87 q = I 87 q := fun q => kp_i f1 (c := 87) (k := q) (p := 265) rfl (by decide)
  have p4 : ∀ q, I2 2 q = I1 2 q := fun q => kp_i f2 (c := 2) (k := q) (p := 16) rfl (by decide)
  have hm' : (I1 86 1).toInt = n := by rw [p1, ← hT.1.1]; exact hn
  by_cases hf : n ≤ 880
  · obtain ⟨Ix, x1, x2, x3, x4⟩ := fx_b (L := L) (xs := xs) (d := 18) (I := I) (J := J) (R := R) (a1 := a1) (a2 := a2) (a3 := a3) (a4 := a4) (a5 := a5) (gd_of hg) hn' hf
    obtain ⟨Iy, y1, y2, y3, y4⟩ := fm_b (L := L) (xs := xs) (d := 19) (I := I1) (J := J1) (R := R1) (a1 := a1) (a2 := a2) (a3 := a3) (a4 := a4) (a5 := a5) (gd_of g1) hm' hf
    obtain ⟨z1, z2⟩ := ev_det c1 x1
    obtain ⟨z3, z4⟩ := ev_det c2 y1
    have er1 : r1 = Ix 1 1 := by injection z1 with h; injection h
    have er2 : r2 = Iy 86 1 := by injection z3 with h; injection h
    have eI1 : I1 = Ix := congrArg (fun h : xH => h.2.1) z2
    have eI2 : I2 = Iy := congrArg (fun h : xH => h.2.1) z4
    refine ⟨r1, r2, I1, I2, J1, J2, R1, R2, c1, c2, g1, g2, ⟨⟨?_, ?_⟩, hR2⟩, ?_⟩
    · rw [p2, eI1, eI2, x2, y2]
    · intro q hq
      rw [p2, eI1, x2] at hq
      rw [p4 q, eI1, eI2]
      by_cases h0 : q < n
      · rw [x3 q h0, y3 q h0, p3]
        exact hT.1.2 q (by omega)
      · obtain ⟨j, i, hj, hi, e⟩ : ∃ j i, j < 5 ∧ i < 4 ∧ q = n + 4 * j + i := ⟨(q - n) / 4, (q - n) % 4, by omega, by omega, by omega⟩
        have u := x4 i hi
        have w := y4 i hi
        have hj5 : j = 0 ∨ j = 1 ∨ j = 2 ∨ j = 3 ∨ j = 4 := by omega
        rcases hj5 with rfl | rfl | rfl | rfl | rfl
        · have e' : q = n + i := by omega
          rw [e', u.1, w.1]
        · have e' : q = n + 4 + i := by omega
          rw [e', u.2.1, w.2.1]
        · have e' : q = n + 8 + i := by omega
          rw [e', u.2.2.1, w.2.2.1]
        · have e' : q = n + 12 + i := by omega
          rw [e', u.2.2.2.1, w.2.2.2.1]
        · have e' : q = n + 16 + i := by omega
          rw [e', u.2.2.2.2, w.2.2.2.2]
    · exact Int32.toInt_inj.mp (by rw [er1, er2, x2, y2])
  · have x1 := sg_fx0 (L := L) (xs := xs) (d := 19) (J := J) (a1 := a1) (a2 := a2) (a3 := a3) (a4 := a4) (a5 := a5) (gd_of hg) (show (I 1 1).toInt > 880 by omega)
    have e20 : (I1 86 1 + 20).toInt = (I1 86 1).toInt + 20 := i_add (by rw [show (20 : Int32).toInt = 20 from by decide]; omega) (by rw [show (20 : Int32).toInt = 20 from by decide]; omega)
    have y1 := sg_fm0 (L := L) (xs := xs) (d := 19) (J := J1) (a1 := a1) (a2 := a2) (a3 := a3) (a4 := a4) (a5 := a5) (gd_of g1) (show (I1 86 1 + 20).toInt > 900 by omega)
    obtain ⟨z1, z2⟩ := ev_det c1 x1
    obtain ⟨z3, z4⟩ := ev_det c2 y1
    have er1 : r1 = -3 := by injection z1 with h; injection h
    have er2 : r2 = -3 := by injection z3 with h; injection h
    have eI1 : I1 = I := congrArg (fun h : xH => h.2.1) z2
    have eI2 : I2 = I1 := congrArg (fun h : xH => h.2.1) z4
    exact ⟨r1, r2, I1, I2, J1, J2, R1, R2, c1, c2, g1, g2, ⟨by rw [eI2, eI1]; exact hT.1, hR2⟩, by rw [er1, er2]⟩
theorem sp_end {L : Nat} {xs : Nat → Int32} {I : Nat → Nat → Int32} {J : Nat → Nat → Int64} {R : Nat → Nat → Nat} (hg : aGood (124, I, J, R)) (hT : lwI I R) (a1 : Int32) : ∃ (r1 r2 : Int32) (I1 I2 : Nat → Nat → Int32) (J1 J2 : Nat → Nat → Int64) (R1 R2 : Nat → Nat → Nat), xEv L xs 19 16 0 [.ref 0, .int a1] [] (124, I, J, R) (some (.int r1)) (124, I1, J1, R1) ∧ xEv L xs 19 146 0 [.ref 86, .int a1] [] (124, I1, J1, R1) (some (.int r2)) (124, I2, J2, R2) ∧ aGood (124, I1, J1, R1) ∧ aGood (124, I2, J2, R2) ∧ lwI I2 R2 ∧ r2 = r1 := by
  obtain ⟨r1, I1, J1, R1, c1, g1, f1, cs1, m1, q1⟩ := api (ol_533 115 (by decide)) (by decide) (L := L) (xs := xs) (d := 19) (vs := [.ref 0, .int a1]) (by decide) hg ⟨g0_r (by decide), g0_i (aw _).1 (aw _).2, rfl⟩ rfl
  obtain ⟨r2, I2, J2, R2, c2, g2, f2, cs2, m2, q2⟩ := api (ol_533 116 (by decide)) (by decide) (L := L) (xs := xs) (d := 19) (vs := [.ref 86, .int a1]) (by decide) g1 ⟨g0_r (by decide), g0_i (aw _).1 (aw _).2, rfl⟩ rfl
  have hR2 : lwR R2 := lwR_k f2 (by decide) (lwR_k f1 (by decide) hT.2)
  have p1 : I1 86 1 = I 86 1 := fr_int f1 86 1 rfl
  have p3 : ∀ q, I1 87 q = I 87 q := fun q => kp_i f1 (c := 87) (k := q) (p := 265) rfl (by decide)
  have hT0 := hT.1.1
  by_cases k1 : a1.toInt < 0
  · obtain ⟨y1, y2⟩ := ev_det c1 (sg_ex0 (n := a1) (gd_of hg) k1)
    cases y1
    cases y2
    obtain ⟨y3, y4⟩ := ev_det c2 (sg_em0 (n := a1) (gd_of g1) k1)
    cases y3
    cases y4
    exact ⟨_, _, _, _, _, _, _, _, c1, c2, g1, g2, ⟨hT.1, hR2⟩, rfl⟩
  · by_cases k2 : a1.toInt > (I 1 1).toInt
    · obtain ⟨y1, y2⟩ := ev_det c1 (sg_ex1 (n := a1) (gd_of hg) (by omega) k2)
      cases y1
      cases y2
      obtain ⟨y3, y4⟩ := ev_det c2 (sg_em1 (n := a1) (gd_of g1) (by omega) (by omega))
      cases y3
      cases y4
      exact ⟨_, _, _, _, _, _, _, _, c1, c2, g1, g2, ⟨hT.1, hR2⟩, rfl⟩
    · obtain ⟨y1, y2⟩ := ev_det c1 (sg_ex2 (n := a1) (gd_of hg) (by omega) (by omega))
      cases y1
      cases y2
      obtain ⟨y3, y4⟩ := ev_det c2 (sg_em2 (n := a1) (gd_of g1) (by omega) (by show a1.toInt ≤ (I 86 1).toInt; omega))
      cases y3
      cases y4
      exact ⟨_, _, _, _, _, _, _, _, c1, c2, g1, g2, ⟨⟨rfl, fun q hq => hT.1.2 q (by have : (q : Int) < a1.toInt := hq; omega)⟩, hR2⟩, rfl⟩
theorem sp_village {L : Nat} {xs : Nat → Int32} {I : Nat → Nat → Int32} {J : Nat → Nat → Int64} {R : Nat → Nat → Nat} (hg : aGood (124, I, J, R)) (hT : lwI I R) : ∃ (r1 r2 : Int32) (I1 I2 : Nat → Nat → Int32) (J1 J2 : Nat → Nat → Int64) (R1 R2 : Nat → Nat → Nat), xEv L xs 19 17 0 [.ref 0, xmk, xmk] [] (124, I, J, R) (some (.int r1)) (124, I1, J1, R1) ∧ xEv L xs 19 148 0 [.ref 86, xmk] [] (124, I1, J1, R1) (some (.int r2)) (124, I2, J2, R2) ∧ aGood (124, I1, J1, R1) ∧ aGood (124, I2, J2, R2) ∧ lwI I2 R2 ∧ r2 = r1 := by
  obtain ⟨r1, I1, J1, R1, c1, g1, f1, cs1, m1, q1⟩ := api (ol_533 305 (by decide)) (by decide) (L := L) (xs := xs) (d := 19) (vs := [.ref 0]) (by decide) hg ⟨g0_r (by decide), rfl⟩ rfl
  obtain ⟨r2, I2, J2, R2, c2, g2, f2, cs2, m2, q2⟩ := api (ol_533 333 (by decide)) (by decide) (L := L) (xs := xs) (d := 19) (vs := [.ref 86]) (by decide) g1 ⟨g0_r (by decide), rfl⟩ rfl
  have m1' := List.mem_singleton.mp m1
  subst m1'
  have m2' := List.mem_singleton.mp m2
  subst m2'
  have t1 : 0 ≤ (I1 1 1).toInt ∧ (I1 1 1).toInt ≤ 0 := fok_at q1.2.2.1 (c := 1) (k := 1) List.mem_cons_self rfl
  have t2 : 0 ≤ (I2 86 1).toInt ∧ (I2 86 1).toInt ≤ 0 := fok_at q2.2.2.1 (c := 86) (k := 1) List.mem_cons_self rfl
  have t3 : I2 1 1 = I1 1 1 := fr_int f2 1 1 rfl
  have hT2 : lwT I2 := lwT_0 (by rw [t3]; exact t1) t2
  have b1 := good_int hg 1 1 rfl
  have b2 : (aRng 1 1) = (0, 900) := rfl
  rw [b2] at b1
  dsimp only at b1
  obtain ⟨n, hn⟩ := Int.eq_ofNat_of_zero_le b1.1
  have hn' : (I 1 1).toInt = n := hn
  have p1 : I1 86 1 = I 86 1 := fr_int f1 86 1 rfl
  have p2 : ∀ q, I1 87 q = I 87 q := fun q => kp_i f1 (c := 87) (k := q) (p := 265) rfl (by decide)
  have hb : bM I1 n = bX I n := by
    funext q
    unfold bM bX
    by_cases h : q < n
    · rw [if_pos h, if_pos h, p2]
      exact hT.1.2 q (by omega)
    · rw [if_neg h, if_neg h]
  have hm' : (I1 86 1).toInt = n := by rw [p1, ← hT.1.1]; exact hn
  rcases hT.2 with ⟨h8, h9⟩ | ⟨h8, h9⟩
  · rcases vil_23 (L := L) (xs := xs) (d := 11) (d' := 13) (Jc := J) (Jr := J1) (gd_of hg) h9 h8 (gd_of g1) (by decide) (by omega) hn' hm' hb with ⟨Ic, Ir, Jc, Jr, x1, x2, -⟩ | ⟨mm, Ic, Ir, Jc, Jr, np, nm, nn, l, x1, x2, -⟩
    · obtain ⟨y1, y2⟩ := ev_det c1 x1
      obtain ⟨y3, y4⟩ := ev_det c2 x2
      have er1 : r1 = -1 := by injection y1 with h; injection h
      have er2 : r2 = -1 := by injection y3 with h; injection h
      have eR1 : R1 = _ := congrArg (fun h : xH => h.2.2.2) y2
      have eR2 : R2 = R1 := congrArg (fun h : xH => h.2.2.2) y4
      exact ⟨r1, r2, I1, I2, J1, J2, R1, R2, c1, c2, g1, g2, ⟨hT2, by rw [eR2, eR1]; exact hT.2⟩, by rw [er1, er2]⟩
    · obtain ⟨y1, y2⟩ := ev_det c1 x1
      obtain ⟨y3, y4⟩ := ev_det c2 x2
      have er1 : r1 = mm := by injection y1 with h; injection h
      have er2 : r2 = mm := by injection y3 with h; injection h
      have eR1 : R1 = _ := congrArg (fun h : xH => h.2.2.2) y2
      have eR2 : R2 = R1 := congrArg (fun h : xH => h.2.2.2) y4
      exact ⟨r1, r2, I1, I2, J1, J2, R1, R2, c1, c2, g1, g2, ⟨hT2, by rw [eR2, eR1]; exact Or.inr ⟨rfl, rfl⟩⟩, by rw [er1, er2]⟩
  · rcases vil_3 (L := L) (xs := xs) (d := 11) (d' := 13) (Jc := J) (Jr := J1) (gd_of hg) h9 h8 (gd_of g1) (by decide) (by omega) hn' hm' hb with ⟨Ic, Ir, Jc, Jr, x1, x2, -⟩ | ⟨mm, Ic, Ir, Jc, Jr, np, nm, nn, l, x1, x2, -⟩
    · obtain ⟨y1, y2⟩ := ev_det c1 x1
      obtain ⟨y3, y4⟩ := ev_det c2 x2
      have er1 : r1 = -1 := by injection y1 with h; injection h
      have er2 : r2 = -1 := by injection y3 with h; injection h
      have eR1 : R1 = _ := congrArg (fun h : xH => h.2.2.2) y2
      have eR2 : R2 = R1 := congrArg (fun h : xH => h.2.2.2) y4
      exact ⟨r1, r2, I1, I2, J1, J2, R1, R2, c1, c2, g1, g2, ⟨hT2, by rw [eR2, eR1]; exact hT.2⟩, by rw [er1, er2]⟩
    · obtain ⟨y1, y2⟩ := ev_det c1 x1
      obtain ⟨y3, y4⟩ := ev_det c2 x2
      have er1 : r1 = mm := by injection y1 with h; injection h
      have er2 : r2 = mm := by injection y3 with h; injection h
      have eR1 : R1 = _ := congrArg (fun h : xH => h.2.2.2) y2
      have eR2 : R2 = R1 := congrArg (fun h : xH => h.2.2.2) y4
      exact ⟨r1, r2, I1, I2, J1, J2, R1, R2, c1, c2, g1, g2, ⟨hT2, by rw [eR2, eR1]; exact Or.inl ⟨rfl, rfl⟩⟩, by rw [er1, er2]⟩
theorem sp_fault {L : Nat} {xs : Nat → Int32} {I : Nat → Nat → Int32} {J : Nat → Nat → Int64} {R : Nat → Nat → Nat} (hg : aGood (124, I, J, R)) (hT : lwI I R) (a1 : Int32) : ∃ (r1 r2 : Int32) (I1 I2 : Nat → Nat → Int32) (J1 J2 : Nat → Nat → Int64) (R1 R2 : Nat → Nat → Nat), xEv L xs 19 47 0 [.ref 0, .int a1] [] (124, I, J, R) (some (.int r1)) (124, I1, J1, R1) ∧ xEv L xs 19 147 0 [.ref 86, .int a1] [] (124, I1, J1, R1) (some (.int r2)) (124, I2, J2, R2) ∧ aGood (124, I1, J1, R1) ∧ aGood (124, I2, J2, R2) ∧ lwI I2 R2 := by
  obtain ⟨r1, I1, J1, R1, c1, g1, f1, cs1, m1, q1⟩ := api (ol_533 334 (by decide)) (by decide) (L := L) (xs := xs) (d := 19) (vs := [.ref 0, .int a1]) (by decide) hg ⟨g0_r (by decide), g0_i (aw _).1 (aw _).2, rfl⟩ rfl
  obtain ⟨r2, I2, J2, R2, c2, g2, f2, cs2, m2, q2⟩ := api (ol_533 335 (by decide)) (by decide) (L := L) (xs := xs) (d := 19) (vs := [.ref 86, .int a1]) (by decide) g1 ⟨g0_r (by decide), g0_i (aw _).1 (aw _).2, rfl⟩ rfl
  exact ⟨r1, r2, I1, I2, J1, J2, R1, R2, c1, c2, g1, g2, lwT_k f2 (by decide) (lwT_k f1 (by decide) hT.1), lwR_k f2 (by decide) (lwR_k f1 (by decide) hT.2)⟩
theorem sp_told {L : Nat} {xs : Nat → Int32} {I : Nat → Nat → Int32} {J : Nat → Nat → Int64} {R : Nat → Nat → Nat} (hg : aGood (124, I, J, R)) (hT : lwI I R) (a1 : Int32) : ∃ (r1 r2 : Int32) (I1 I2 : Nat → Nat → Int32) (J1 J2 : Nat → Nat → Int64) (R1 R2 : Nat → Nat → Nat), xEv L xs 19 48 0 [.ref 0, .int a1, xmk] [] (124, I, J, R) (some (.int r1)) (124, I1, J1, R1) ∧ xEv L xs 19 166 0 [.ref 86, .int a1, xmk] [] (124, I1, J1, R1) (some (.int r2)) (124, I2, J2, R2) ∧ aGood (124, I1, J1, R1) ∧ aGood (124, I2, J2, R2) ∧ lwI I2 R2 := by
  obtain ⟨r1, I1, J1, R1, c1, g1, f1, cs1, m1, q1⟩ := api (ol_533 347 (by decide)) (by decide) (L := L) (xs := xs) (d := 19) (vs := [.ref 0, .int a1]) (by decide) hg ⟨g0_r (by decide), g0_i (aw _).1 (aw _).2, rfl⟩ rfl
  obtain ⟨r2, I2, J2, R2, c2, g2, f2, cs2, m2, q2⟩ := api (ol_533 352 (by decide)) (by decide) (L := L) (xs := xs) (d := 19) (vs := [.ref 86, .int a1]) (by decide) g1 ⟨g0_r (by decide), g0_i (aw _).1 (aw _).2, rfl⟩ rfl
  exact ⟨r1, r2, I1, I2, J1, J2, R1, R2, c1, c2, g1, g2, lwT_k f2 (by decide) (lwT_k f1 (by decide) hT.1), lwR_k f2 (by decide) (lwR_k f1 (by decide) hT.2)⟩
theorem sp_meeting {L : Nat} {xs : Nat → Int32} {I : Nat → Nat → Int32} {J : Nat → Nat → Int64} {R : Nat → Nat → Nat} (hg : aGood (124, I, J, R)) (hT : lwI I R) (a1 a2 : Int32) : ∃ (r1 r2 : Int32) (I1 I2 : Nat → Nat → Int32) (J1 J2 : Nat → Nat → Int64) (R1 R2 : Nat → Nat → Nat), xEv L xs 19 51 0 [.ref 0, .int a1, .int a2] [] (124, I, J, R) (some (.int r1)) (124, I1, J1, R1) ∧ xEv L xs 19 169 0 [.ref 86, .int a1, .int a2] [] (124, I1, J1, R1) (some (.int r2)) (124, I2, J2, R2) ∧ aGood (124, I1, J1, R1) ∧ aGood (124, I2, J2, R2) ∧ lwI I2 R2 := by
  obtain ⟨r1, I1, J1, R1, c1, g1, f1, cs1, m1, q1⟩ := api (ol_533 357 (by decide)) (by decide) (L := L) (xs := xs) (d := 19) (vs := [.ref 0, .int a1, .int a2]) (by decide) hg ⟨g0_r (by decide), g0_i (aw _).1 (aw _).2, g0_i (aw _).1 (aw _).2, rfl⟩ rfl
  obtain ⟨r2, I2, J2, R2, c2, g2, f2, cs2, m2, q2⟩ := api (ol_533 359 (by decide)) (by decide) (L := L) (xs := xs) (d := 19) (vs := [.ref 86, .int a1, .int a2]) (by decide) g1 ⟨g0_r (by decide), g0_i (aw _).1 (aw _).2, g0_i (aw _).1 (aw _).2, rfl⟩ rfl
  exact ⟨r1, r2, I1, I2, J1, J2, R1, R2, c1, c2, g1, g2, lwT_k f2 (by decide) (lwT_k f1 (by decide) hT.1), lwR_k f2 (by decide) (lwR_k f1 (by decide) hT.2)⟩
theorem sp_time {L : Nat} {xs : Nat → Int32} {I : Nat → Nat → Int32} {J : Nat → Nat → Int64} {R : Nat → Nat → Nat} (hg : aGood (124, I, J, R)) (hT : lwI I R) (a1 a2 : Int32) : ∃ (r1 r2 : Int32) (I1 I2 : Nat → Nat → Int32) (J1 J2 : Nat → Nat → Int64) (R1 R2 : Nat → Nat → Nat), xEv L xs 19 52 0 [.ref 0, .int a1, .int a2] [] (124, I, J, R) (some (.int r1)) (124, I1, J1, R1) ∧ xEv L xs 19 170 0 [.ref 86, .int a1, .int a2] [] (124, I1, J1, R1) (some (.int r2)) (124, I2, J2, R2) ∧ aGood (124, I1, J1, R1) ∧ aGood (124, I2, J2, R2) ∧ lwI I2 R2 := by
  obtain ⟨r1, I1, J1, R1, c1, g1, f1, cs1, m1, q1⟩ := api (ol_533 362 (by decide)) (by decide) (L := L) (xs := xs) (d := 19) (vs := [.ref 0, .int a1, .int a2]) (by decide) hg ⟨g0_r (by decide), g0_i (aw _).1 (aw _).2, g0_i (aw _).1 (aw _).2, rfl⟩ rfl
  obtain ⟨r2, I2, J2, R2, c2, g2, f2, cs2, m2, q2⟩ := api (ol_533 364 (by decide)) (by decide) (L := L) (xs := xs) (d := 19) (vs := [.ref 86, .int a1, .int a2]) (by decide) g1 ⟨g0_r (by decide), g0_i (aw _).1 (aw _).2, g0_i (aw _).1 (aw _).2, rfl⟩ rfl
  exact ⟨r1, r2, I1, I2, J1, J2, R1, R2, c1, c2, g1, g2, lwT_k f2 (by decide) (lwT_k f1 (by decide) hT.1), lwR_k f2 (by decide) (lwR_k f1 (by decide) hT.2)⟩
theorem sp_judge {L : Nat} {xs : Nat → Int32} {I : Nat → Nat → Int32} {J : Nat → Nat → Int64} {R : Nat → Nat → Nat} (hg : aGood (124, I, J, R)) (hT : lwI I R) : ∃ (r1 r2 : Int32) (I1 I2 : Nat → Nat → Int32) (J1 J2 : Nat → Nat → Int64) (R1 R2 : Nat → Nat → Nat), xEv L xs 19 53 0 [.ref 0, xmk] [] (124, I, J, R) (some (.int r1)) (124, I1, J1, R1) ∧ xEv L xs 19 172 0 [.ref 86, xmk, xmk] [] (124, I1, J1, R1) (some (.int r2)) (124, I2, J2, R2) ∧ aGood (124, I1, J1, R1) ∧ aGood (124, I2, J2, R2) ∧ lwI I2 R2 := by
  obtain ⟨r1, I1, J1, R1, c1, g1, f1, cs1, m1, q1⟩ := api (ol_533 380 (by decide)) (by decide) (L := L) (xs := xs) (d := 19) (vs := [.ref 0]) (by decide) hg ⟨g0_r (by decide), rfl⟩ rfl
  obtain ⟨r2, I2, J2, R2, c2, g2, f2, cs2, m2, q2⟩ := api (ol_533 385 (by decide)) (by decide) (L := L) (xs := xs) (d := 19) (vs := [.ref 86]) (by decide) g1 ⟨g0_r (by decide), rfl⟩ rfl
  have m1' := List.mem_singleton.mp m1
  subst m1'
  have m2' := List.mem_singleton.mp m2
  subst m2'
  have t1 : 0 ≤ (I1 1 1).toInt ∧ (I1 1 1).toInt ≤ 0 := fok_at q1.2.2.1 (c := 1) (k := 1) List.mem_cons_self rfl
  have t2 : 0 ≤ (I2 86 1).toInt ∧ (I2 86 1).toInt ≤ 0 := fok_at q2.2.2.1 (c := 86) (k := 1) List.mem_cons_self rfl
  have t3 : I2 1 1 = I1 1 1 := fr_int f2 1 1 rfl
  have hT2 : lwT I2 := lwT_0 (by rw [t3]; exact t1) t2
  exact ⟨r1, r2, I1, I2, J1, J2, R1, R2, c1, c2, g1, g2, hT2, lwR_k f2 (by decide) (lwR_k f1 (by decide) hT.2)⟩
theorem sp_judged {L : Nat} {xs : Nat → Int32} {I : Nat → Nat → Int32} {J : Nat → Nat → Int64} {R : Nat → Nat → Nat} (hg : aGood (124, I, J, R)) (hT : lwI I R) (a1 a2 : Int32) : ∃ (r1 r2 : Int32) (I1 I2 : Nat → Nat → Int32) (J1 J2 : Nat → Nat → Int64) (R1 R2 : Nat → Nat → Nat), xEv L xs 19 62 0 [.ref 0, .int a1, .int a2] [] (124, I, J, R) (some (.int r1)) (124, I1, J1, R1) ∧ xEv L xs 19 181 0 [.ref 86, .int a1, .int a2] [] (124, I1, J1, R1) (some (.int r2)) (124, I2, J2, R2) ∧ aGood (124, I1, J1, R1) ∧ aGood (124, I2, J2, R2) ∧ lwI I2 R2 := by
  obtain ⟨r1, I1, J1, R1, c1, g1, f1, cs1, m1, q1⟩ := api (ol_533 387 (by decide)) (by decide) (L := L) (xs := xs) (d := 19) (vs := [.ref 0, .int a1, .int a2]) (by decide) hg ⟨g0_r (by decide), g0_i (aw _).1 (aw _).2, g0_i (aw _).1 (aw _).2, rfl⟩ rfl
  obtain ⟨r2, I2, J2, R2, c2, g2, f2, cs2, m2, q2⟩ := api (ol_533 388 (by decide)) (by decide) (L := L) (xs := xs) (d := 19) (vs := [.ref 86, .int a1, .int a2]) (by decide) g1 ⟨g0_r (by decide), g0_i (aw _).1 (aw _).2, g0_i (aw _).1 (aw _).2, rfl⟩ rfl
  exact ⟨r1, r2, I1, I2, J1, J2, R1, R2, c1, c2, g1, g2, lwT_k f2 (by decide) (lwT_k f1 (by decide) hT.1), lwR_k f2 (by decide) (lwR_k f1 (by decide) hT.2)⟩
theorem sp_soon {L : Nat} {xs : Nat → Int32} {I : Nat → Nat → Int32} {J : Nat → Nat → Int64} {R : Nat → Nat → Nat} (hg : aGood (124, I, J, R)) (hT : lwI I R) (a1 a2 a3 a4 : Int32) : ∃ (r1 r2 : Int32) (I1 I2 : Nat → Nat → Int32) (J1 J2 : Nat → Nat → Int64) (R1 R2 : Nat → Nat → Nat), xEv L xs 19 63 0 [.ref 0, .int a1, .int a2, .int a3, .int a4] [] (124, I, J, R) (some (.int r1)) (124, I1, J1, R1) ∧ xEv L xs 19 182 0 [.ref 86, .int a1, .int a2, .int a3, .int a4, xmk] [] (124, I1, J1, R1) (some (.int r2)) (124, I2, J2, R2) ∧ aGood (124, I1, J1, R1) ∧ aGood (124, I2, J2, R2) ∧ lwI I2 R2 := by
  obtain ⟨r1, I1, J1, R1, c1, g1, f1, cs1, m1, q1⟩ := api (ol_533 391 (by decide)) (by decide) (L := L) (xs := xs) (d := 19) (vs := [.ref 0, .int a1, .int a2, .int a3, .int a4]) (by decide) hg ⟨g0_r (by decide), g0_i (aw _).1 (aw _).2, g0_i (aw _).1 (aw _).2, g0_i (aw _).1 (aw _).2, g0_i (aw _).1 (aw _).2, rfl⟩ rfl
  obtain ⟨r2, I2, J2, R2, c2, g2, f2, cs2, m2, q2⟩ := api (ol_533 395 (by decide)) (by decide) (L := L) (xs := xs) (d := 19) (vs := [.ref 86, .int a1, .int a2, .int a3, .int a4]) (by decide) g1 ⟨g0_r (by decide), g0_i (aw _).1 (aw _).2, g0_i (aw _).1 (aw _).2, g0_i (aw _).1 (aw _).2, g0_i (aw _).1 (aw _).2, rfl⟩ rfl
  exact ⟨r1, r2, I1, I2, J1, J2, R1, R2, c1, c2, g1, g2, lwT_k f2 (by decide) (lwT_k f1 (by decide) hT.1), lwR_k f2 (by decide) (lwR_k f1 (by decide) hT.2)⟩
theorem sp_surest {L : Nat} {xs : Nat → Int32} {I : Nat → Nat → Int32} {J : Nat → Nat → Int64} {R : Nat → Nat → Nat} (hg : aGood (124, I, J, R)) (hT : lwI I R) (a1 a2 a3 a4 a5 a6 : Int32) : ∃ (r1 r2 : Int32) (I1 I2 : Nat → Nat → Int32) (J1 J2 : Nat → Nat → Int64) (R1 R2 : Nat → Nat → Nat), xEv L xs 19 68 0 [.ref 0, .int a1, .int a2, .int a3, .int a4, .int a5, .int a6, xmk] [] (124, I, J, R) (some (.int r1)) (124, I1, J1, R1) ∧ xEv L xs 19 188 0 [.ref 86, .int a1, .int a2, .int a3, .int a4, .int a5, .int a6] [] (124, I1, J1, R1) (some (.int r2)) (124, I2, J2, R2) ∧ aGood (124, I1, J1, R1) ∧ aGood (124, I2, J2, R2) ∧ lwI I2 R2 := by
  obtain ⟨r1, I1, J1, R1, c1, g1, f1, cs1, m1, q1⟩ := api (ol_533 402 (by decide)) (by decide) (L := L) (xs := xs) (d := 19) (vs := [.ref 0, .int a1, .int a2, .int a3, .int a4, .int a5, .int a6]) (by decide) hg ⟨g0_r (by decide), g0_i (aw _).1 (aw _).2, g0_i (aw _).1 (aw _).2, g0_i (aw _).1 (aw _).2, g0_i (aw _).1 (aw _).2, g0_i (aw _).1 (aw _).2, g0_i (aw _).1 (aw _).2, rfl⟩ rfl
  obtain ⟨r2, I2, J2, R2, c2, g2, f2, cs2, m2, q2⟩ := api (ol_533 407 (by decide)) (by decide) (L := L) (xs := xs) (d := 19) (vs := [.ref 86, .int a1, .int a2, .int a3, .int a4, .int a5, .int a6]) (by decide) g1 ⟨g0_r (by decide), g0_i (aw _).1 (aw _).2, g0_i (aw _).1 (aw _).2, g0_i (aw _).1 (aw _).2, g0_i (aw _).1 (aw _).2, g0_i (aw _).1 (aw _).2, g0_i (aw _).1 (aw _).2, rfl⟩ rfl
  exact ⟨r1, r2, I1, I2, J1, J2, R1, R2, c1, c2, g1, g2, lwT_k f2 (by decide) (lwT_k f1 (by decide) hT.1), lwR_k f2 (by decide) (lwR_k f1 (by decide) hT.2)⟩
theorem sp_bars {L : Nat} {xs : Nat → Int32} {I : Nat → Nat → Int32} {J : Nat → Nat → Int64} {R : Nat → Nat → Nat} (hg : aGood (124, I, J, R)) (hT : lwI I R) (a1 a2 a3 a4 : Int32) : ∃ (r1 r2 : Int32) (I1 I2 : Nat → Nat → Int32) (J1 J2 : Nat → Nat → Int64) (R1 R2 : Nat → Nat → Nat), xEv L xs 19 82 0 [.ref 0, .int a1, .int a2, .int a3, .int a4, xmk, xmk, xmk] [] (124, I, J, R) (some (.int r1)) (124, I1, J1, R1) ∧ xEv L xs 19 187 0 [.ref 86, .int a1, .int a2, .int a3, .int a4, xmk, xmk] [] (124, I1, J1, R1) (some (.int r2)) (124, I2, J2, R2) ∧ aGood (124, I1, J1, R1) ∧ aGood (124, I2, J2, R2) ∧ lwI I2 R2 := by
  obtain ⟨r1, I1, J1, R1, c1, g1, f1, cs1, m1, q1⟩ := api (ol_533 408 (by decide)) (by decide) (L := L) (xs := xs) (d := 19) (vs := [.ref 0, .int a1, .int a2, .int a3, .int a4]) (by decide) hg ⟨g0_r (by decide), g0_i (aw _).1 (aw _).2, g0_i (aw _).1 (aw _).2, g0_i (aw _).1 (aw _).2, g0_i (aw _).1 (aw _).2, rfl⟩ rfl
  obtain ⟨r2, I2, J2, R2, c2, g2, f2, cs2, m2, q2⟩ := api (ol_533 409 (by decide)) (by decide) (L := L) (xs := xs) (d := 19) (vs := [.ref 86, .int a1, .int a2, .int a3, .int a4]) (by decide) g1 ⟨g0_r (by decide), g0_i (aw _).1 (aw _).2, g0_i (aw _).1 (aw _).2, g0_i (aw _).1 (aw _).2, g0_i (aw _).1 (aw _).2, rfl⟩ rfl
  exact ⟨r1, r2, I1, I2, J1, J2, R1, R2, c1, c2, g1, g2, lwT_k f2 (by decide) (lwT_k f1 (by decide) hT.1), lwR_k f2 (by decide) (lwR_k f1 (by decide) hT.2)⟩
theorem sp_all {L : Nat} {xs : Nat → Int32} {I : Nat → Nat → Int32} {J : Nat → Nat → Int64} {R : Nat → Nat → Nat} (hg : aGood (124, I, J, R)) (hT : lwI I R) (a1 : Int32) : ∃ (r1 r2 : Int32) (I1 I2 : Nat → Nat → Int32) (J1 J2 : Nat → Nat → Int64) (R1 R2 : Nat → Nat → Nat), xEv L xs 19 83 0 [.ref 0, .int a1] [] (124, I, J, R) (some (.int r1)) (124, I1, J1, R1) ∧ xEv L xs 19 198 0 [.ref 86, .int a1] [] (124, I1, J1, R1) (some (.int r2)) (124, I2, J2, R2) ∧ aGood (124, I1, J1, R1) ∧ aGood (124, I2, J2, R2) ∧ lwI I2 R2 := by
  obtain ⟨r1, I1, J1, R1, c1, g1, f1, cs1, m1, q1⟩ := api (ol_533 432 (by decide)) (by decide) (L := L) (xs := xs) (d := 19) (vs := [.ref 0, .int a1]) (by decide) hg ⟨g0_r (by decide), g0_i (aw _).1 (aw _).2, rfl⟩ rfl
  obtain ⟨r2, I2, J2, R2, c2, g2, f2, cs2, m2, q2⟩ := api (ol_533 457 (by decide)) (by decide) (L := L) (xs := xs) (d := 19) (vs := [.ref 86, .int a1]) (by decide) g1 ⟨g0_r (by decide), g0_i (aw _).1 (aw _).2, rfl⟩ rfl
  exact ⟨r1, r2, I1, I2, J1, J2, R1, R2, c1, c2, g1, g2, lwT_k f2 (by decide) (lwT_k f1 (by decide) hT.1), lwR_k f2 (by decide) (lwR_k f1 (by decide) hT.2)⟩
theorem sp_together {L : Nat} {xs : Nat → Int32} {I : Nat → Nat → Int32} {J : Nat → Nat → Int64} {R : Nat → Nat → Nat} (hg : aGood (124, I, J, R)) (hT : lwI I R) (a1 a2 : Int32) : ∃ (r1 r2 : Int32) (I1 I2 : Nat → Nat → Int32) (J1 J2 : Nat → Nat → Int64) (R1 R2 : Nat → Nat → Nat), xEv L xs 19 93 0 [.ref 0, .int a1, .int a2, xmk] [] (124, I, J, R) (some (.int r1)) (124, I1, J1, R1) ∧ xEv L xs 19 208 0 [.ref 86, .int a1, .int a2, xmk, xmk, xmk, xmk, xmk] [] (124, I1, J1, R1) (some (.int r2)) (124, I2, J2, R2) ∧ aGood (124, I1, J1, R1) ∧ aGood (124, I2, J2, R2) ∧ lwI I2 R2 := by
  obtain ⟨r1, I1, J1, R1, c1, g1, f1, cs1, m1, q1⟩ := api (ol_533 459 (by decide)) (by decide) (L := L) (xs := xs) (d := 19) (vs := [.ref 0, .int a1, .int a2]) (by decide) hg ⟨g0_r (by decide), g0_i (aw _).1 (aw _).2, g0_i (aw _).1 (aw _).2, rfl⟩ rfl
  obtain ⟨r2, I2, J2, R2, c2, g2, f2, cs2, m2, q2⟩ := api (ol_533 461 (by decide)) (by decide) (L := L) (xs := xs) (d := 19) (vs := [.ref 86, .int a1, .int a2]) (by decide) g1 ⟨g0_r (by decide), g0_i (aw _).1 (aw _).2, g0_i (aw _).1 (aw _).2, rfl⟩ rfl
  exact ⟨r1, r2, I1, I2, J1, J2, R1, R2, c1, c2, g1, g2, lwT_k f2 (by decide) (lwT_k f1 (by decide) hT.1), lwR_k f2 (by decide) (lwR_k f1 (by decide) hT.2)⟩
theorem sp_reply {L : Nat} {xs : Nat → Int32} {I : Nat → Nat → Int32} {J : Nat → Nat → Int64} {R : Nat → Nat → Nat} (hg : aGood (124, I, J, R)) (hT : lwI I R) (a1 : Int32) : ∃ (r1 r2 : Int32) (I1 I2 : Nat → Nat → Int32) (J1 J2 : Nat → Nat → Int64) (R1 R2 : Nat → Nat → Nat), xEv L xs 19 95 0 [.ref 0, .int a1, xmk] [] (124, I, J, R) (some (.int r1)) (124, I1, J1, R1) ∧ xEv L xs 19 210 0 [.ref 86, .int a1, xmk, xmk, xmk] [] (124, I1, J1, R1) (some (.int r2)) (124, I2, J2, R2) ∧ aGood (124, I1, J1, R1) ∧ aGood (124, I2, J2, R2) ∧ lwI I2 R2 := by
  obtain ⟨r1, I1, J1, R1, c1, g1, f1, cs1, m1, q1⟩ := api (ol_533 466 (by decide)) (by decide) (L := L) (xs := xs) (d := 19) (vs := [.ref 0, .int a1]) (by decide) hg ⟨g0_r (by decide), g0_i (aw _).1 (aw _).2, rfl⟩ rfl
  obtain ⟨r2, I2, J2, R2, c2, g2, f2, cs2, m2, q2⟩ := api (ol_533 468 (by decide)) (by decide) (L := L) (xs := xs) (d := 19) (vs := [.ref 86, .int a1]) (by decide) g1 ⟨g0_r (by decide), g0_i (aw _).1 (aw _).2, rfl⟩ rfl
  have m1' := List.mem_singleton.mp m1
  subst m1'
  have m2' := List.mem_singleton.mp m2
  subst m2'
  have t1 : 0 ≤ (I1 1 1).toInt ∧ (I1 1 1).toInt ≤ 0 := fok_at q1.2.2.1 (c := 1) (k := 1) List.mem_cons_self rfl
  have t2 : 0 ≤ (I2 86 1).toInt ∧ (I2 86 1).toInt ≤ 0 := fok_at q2.2.2.1 (c := 86) (k := 1) List.mem_cons_self rfl
  have t3 : I2 1 1 = I1 1 1 := fr_int f2 1 1 rfl
  have hT2 : lwT I2 := lwT_0 (by rw [t3]; exact t1) t2
  exact ⟨r1, r2, I1, I2, J1, J2, R1, R2, c1, c2, g1, g2, hT2, lwR_k f2 (by decide) (lwR_k f1 (by decide) hT.2)⟩
theorem sp_ring {L : Nat} {xs : Nat → Int32} {I : Nat → Nat → Int32} {J : Nat → Nat → Int64} {R : Nat → Nat → Nat} (hg : aGood (124, I, J, R)) (hT : lwI I R) (a1 : Int32) : ∃ (r1 r2 : Int32) (I1 I2 : Nat → Nat → Int32) (J1 J2 : Nat → Nat → Int64) (R1 R2 : Nat → Nat → Nat), xEv L xs 19 100 0 [.ref 0, .int a1, xmk] [] (124, I, J, R) (some (.int r1)) (124, I1, J1, R1) ∧ xEv L xs 19 212 0 [.ref 86, .int a1, xmk, xmk] [] (124, I1, J1, R1) (some (.int r2)) (124, I2, J2, R2) ∧ aGood (124, I1, J1, R1) ∧ aGood (124, I2, J2, R2) ∧ lwI I2 R2 := by
  obtain ⟨r1, I1, J1, R1, c1, g1, f1, cs1, m1, q1⟩ := api (ol_533 478 (by decide)) (by decide) (L := L) (xs := xs) (d := 19) (vs := [.ref 0, .int a1]) (by decide) hg ⟨g0_r (by decide), g0_i (aw _).1 (aw _).2, rfl⟩ rfl
  obtain ⟨r2, I2, J2, R2, c2, g2, f2, cs2, m2, q2⟩ := api (ol_533 479 (by decide)) (by decide) (L := L) (xs := xs) (d := 19) (vs := [.ref 86, .int a1]) (by decide) g1 ⟨g0_r (by decide), g0_i (aw _).1 (aw _).2, rfl⟩ rfl
  have m1' := List.mem_singleton.mp m1
  subst m1'
  have m2' := List.mem_singleton.mp m2
  subst m2'
  have t1 : 0 ≤ (I1 1 1).toInt ∧ (I1 1 1).toInt ≤ 0 := fok_at q1.2.2.1 (c := 1) (k := 1) List.mem_cons_self rfl
  have t2 : 0 ≤ (I2 86 1).toInt ∧ (I2 86 1).toInt ≤ 0 := fok_at q2.2.2.1 (c := 86) (k := 1) List.mem_cons_self rfl
  have t3 : I2 1 1 = I1 1 1 := fr_int f2 1 1 rfl
  have hT2 : lwT I2 := lwT_0 (by rw [t3]; exact t1) t2
  exact ⟨r1, r2, I1, I2, J1, J2, R1, R2, c1, c2, g1, g2, hT2, lwR_k f2 (by decide) (lwR_k f1 (by decide) hT.2)⟩
theorem sp_bestRing {L : Nat} {xs : Nat → Int32} {I : Nat → Nat → Int32} {J : Nat → Nat → Int64} {R : Nat → Nat → Nat} (hg : aGood (124, I, J, R)) (hT : lwI I R) (a1 : Int32) : ∃ (r1 r2 : Int32) (I1 I2 : Nat → Nat → Int32) (J1 J2 : Nat → Nat → Int64) (R1 R2 : Nat → Nat → Nat), xEv L xs 19 109 0 [.ref 0, .int a1, xmk, xmk] [] (124, I, J, R) (some (.int r1)) (124, I1, J1, R1) ∧ xEv L xs 19 214 0 [.ref 86, .int a1, xmk, xmk, xmk, xmk] [] (124, I1, J1, R1) (some (.int r2)) (124, I2, J2, R2) ∧ aGood (124, I1, J1, R1) ∧ aGood (124, I2, J2, R2) ∧ lwI I2 R2 := by
  obtain ⟨r1, I1, J1, R1, c1, g1, f1, cs1, m1, q1⟩ := api (ol_533 482 (by decide)) (by decide) (L := L) (xs := xs) (d := 19) (vs := [.ref 0, .int a1]) (by decide) hg ⟨g0_r (by decide), g0_i (aw _).1 (aw _).2, rfl⟩ rfl
  obtain ⟨r2, I2, J2, R2, c2, g2, f2, cs2, m2, q2⟩ := api (ol_533 484 (by decide)) (by decide) (L := L) (xs := xs) (d := 19) (vs := [.ref 86, .int a1]) (by decide) g1 ⟨g0_r (by decide), g0_i (aw _).1 (aw _).2, rfl⟩ rfl
  exact ⟨r1, r2, I1, I2, J1, J2, R1, R2, c1, c2, g1, g2, lwT_k f2 (by decide) (lwT_k f1 (by decide) hT.1), lwR_k f2 (by decide) (lwR_k f1 (by decide) hT.2)⟩
theorem sp_where {L : Nat} {xs : Nat → Int32} {I : Nat → Nat → Int32} {J : Nat → Nat → Int64} {R : Nat → Nat → Nat} (hg : aGood (124, I, J, R)) (hT : lwI I R) (a1 a2 a3 a4 a5 a6 : Int32) : ∃ (r1 r2 : Int32) (I1 I2 : Nat → Nat → Int32) (J1 J2 : Nat → Nat → Int64) (R1 R2 : Nat → Nat → Nat), xEv L xs 19 111 0 [.ref 0, .int a1, .int a2, .int a3, .int a4, .int a5, .int a6] [] (124, I, J, R) (some (.int r1)) (124, I1, J1, R1) ∧ xEv L xs 19 215 0 [.ref 86, .int a1, .int a2, .int a3, .int a4, .int a5, .int a6] [] (124, I1, J1, R1) (some (.int r2)) (124, I2, J2, R2) ∧ aGood (124, I1, J1, R1) ∧ aGood (124, I2, J2, R2) ∧ lwI I2 R2 := by
  obtain ⟨r1, I1, J1, R1, c1, g1, f1, cs1, m1, q1⟩ := api (ol_533 488 (by decide)) (by decide) (L := L) (xs := xs) (d := 19) (vs := [.ref 0, .int a1, .int a2, .int a3, .int a4, .int a5, .int a6]) (by decide) hg ⟨g0_r (by decide), g0_i (aw _).1 (aw _).2, g0_i (aw _).1 (aw _).2, g0_i (aw _).1 (aw _).2, g0_i (aw _).1 (aw _).2, g0_i (aw _).1 (aw _).2, g0_i (aw _).1 (aw _).2, rfl⟩ rfl
  obtain ⟨r2, I2, J2, R2, c2, g2, f2, cs2, m2, q2⟩ := api (ol_533 493 (by decide)) (by decide) (L := L) (xs := xs) (d := 19) (vs := [.ref 86, .int a1, .int a2, .int a3, .int a4, .int a5, .int a6]) (by decide) g1 ⟨g0_r (by decide), g0_i (aw _).1 (aw _).2, g0_i (aw _).1 (aw _).2, g0_i (aw _).1 (aw _).2, g0_i (aw _).1 (aw _).2, g0_i (aw _).1 (aw _).2, g0_i (aw _).1 (aw _).2, rfl⟩ rfl
  exact ⟨r1, r2, I1, I2, J1, J2, R1, R2, c1, c2, g1, g2, lwT_k f2 (by decide) (lwT_k f1 (by decide) hT.1), lwR_k f2 (by decide) (lwR_k f1 (by decide) hT.2)⟩
theorem sp_ask {L : Nat} {xs : Nat → Int32} {I : Nat → Nat → Int32} {J : Nat → Nat → Int64} {R : Nat → Nat → Nat} (hg : aGood (124, I, J, R)) (hT : lwI I R) (a1 a2 a3 a4 a5 : Int32) : ∃ (r1 r2 : Int32) (I1 I2 : Nat → Nat → Int32) (J1 J2 : Nat → Nat → Int64) (R1 R2 : Nat → Nat → Nat), xEv L xs 19 114 0 [.ref 0, .int a1, .int a2, .int a3, .int a4, .int a5, xmk, xmk] [] (124, I, J, R) (some (.int r1)) (124, I1, J1, R1) ∧ xEv L xs 19 218 0 [.ref 86, .int a1, .int a2, .int a3, .int a4, .int a5, xmk, xmk] [] (124, I1, J1, R1) (some (.int r2)) (124, I2, J2, R2) ∧ aGood (124, I1, J1, R1) ∧ aGood (124, I2, J2, R2) ∧ lwI I2 R2 := by
  obtain ⟨r1, I1, J1, R1, c1, g1, f1, cs1, m1, q1⟩ := api (ol_533 494 (by decide)) (by decide) (L := L) (xs := xs) (d := 19) (vs := [.ref 0, .int a1, .int a2, .int a3, .int a4, .int a5]) (by decide) hg ⟨g0_r (by decide), g0_i (aw _).1 (aw _).2, g0_i (aw _).1 (aw _).2, g0_i (aw _).1 (aw _).2, g0_i (aw _).1 (aw _).2, g0_i (aw _).1 (aw _).2, rfl⟩ rfl
  obtain ⟨r2, I2, J2, R2, c2, g2, f2, cs2, m2, q2⟩ := api (ol_533 495 (by decide)) (by decide) (L := L) (xs := xs) (d := 19) (vs := [.ref 86, .int a1, .int a2, .int a3, .int a4, .int a5]) (by decide) g1 ⟨g0_r (by decide), g0_i (aw _).1 (aw _).2, g0_i (aw _).1 (aw _).2, g0_i (aw _).1 (aw _).2, g0_i (aw _).1 (aw _).2, g0_i (aw _).1 (aw _).2, rfl⟩ rfl
  exact ⟨r1, r2, I1, I2, J1, J2, R1, R2, c1, c2, g1, g2, lwT_k f2 (by decide) (lwT_k f1 (by decide) hT.1), lwR_k f2 (by decide) (lwR_k f1 (by decide) hT.2)⟩
theorem sp_fight {L : Nat} {xs : Nat → Int32} {I : Nat → Nat → Int32} {J : Nat → Nat → Int64} {R : Nat → Nat → Nat} (hg : aGood (124, I, J, R)) (hT : lwI I R) (a1 : Int32) : ∃ (r1 r2 : Int32) (I1 I2 : Nat → Nat → Int32) (J1 J2 : Nat → Nat → Int64) (R1 R2 : Nat → Nat → Nat), xEv L xs 19 115 0 [.ref 0, .int a1, xmk] [] (124, I, J, R) (some (.int r1)) (124, I1, J1, R1) ∧ xEv L xs 19 219 0 [.ref 86, .int a1, xmk, xmk, xmk, xmk, xmk, xmk, xmk] [] (124, I1, J1, R1) (some (.int r2)) (124, I2, J2, R2) ∧ aGood (124, I1, J1, R1) ∧ aGood (124, I2, J2, R2) ∧ lwI I2 R2 := by
  obtain ⟨r1, I1, J1, R1, c1, g1, f1, cs1, m1, q1⟩ := api (ol_533 498 (by decide)) (by decide) (L := L) (xs := xs) (d := 19) (vs := [.ref 0, .int a1]) (by decide) hg ⟨g0_r (by decide), g0_i (aw _).1 (aw _).2, rfl⟩ rfl
  obtain ⟨r2, I2, J2, R2, c2, g2, f2, cs2, m2, q2⟩ := api (ol_533 499 (by decide)) (by decide) (L := L) (xs := xs) (d := 19) (vs := [.ref 86, .int a1]) (by decide) g1 ⟨g0_r (by decide), g0_i (aw _).1 (aw _).2, rfl⟩ rfl
  have m1' := List.mem_singleton.mp m1
  subst m1'
  have m2' := List.mem_singleton.mp m2
  subst m2'
  have t1 : 0 ≤ (I1 1 1).toInt ∧ (I1 1 1).toInt ≤ 0 := fok_at q1.2.2.1 (c := 1) (k := 1) List.mem_cons_self rfl
  have t2 : 0 ≤ (I2 86 1).toInt ∧ (I2 86 1).toInt ≤ 0 := fok_at q2.2.2.1 (c := 86) (k := 1) List.mem_cons_self rfl
  have t3 : I2 1 1 = I1 1 1 := fr_int f2 1 1 rfl
  have hT2 : lwT I2 := lwT_0 (by rw [t3]; exact t1) t2
  exact ⟨r1, r2, I1, I2, J1, J2, R1, R2, c1, c2, g1, g2, hT2, lwR_k f2 (by decide) (lwR_k f1 (by decide) hT.2)⟩
theorem sp_believe {L : Nat} {xs : Nat → Int32} {I : Nat → Nat → Int32} {J : Nat → Nat → Int64} {R : Nat → Nat → Nat} (hg : aGood (124, I, J, R)) (hT : lwI I R) (a1 : Int32) : ∃ (r1 r2 : Int32) (I1 I2 : Nat → Nat → Int32) (J1 J2 : Nat → Nat → Int64) (R1 R2 : Nat → Nat → Nat), xEv L xs 19 118 0 [.ref 0, .int a1] [] (124, I, J, R) (some (.int r1)) (124, I1, J1, R1) ∧ xEv L xs 19 220 0 [.ref 86, .int a1] [] (124, I1, J1, R1) (some (.int r2)) (124, I2, J2, R2) ∧ aGood (124, I1, J1, R1) ∧ aGood (124, I2, J2, R2) ∧ lwI I2 R2 := by
  obtain ⟨r1, I1, J1, R1, c1, g1, f1, cs1, m1, q1⟩ := api (ol_533 500 (by decide)) (by decide) (L := L) (xs := xs) (d := 19) (vs := [.ref 0, .int a1]) (by decide) hg ⟨g0_r (by decide), g0_i (aw _).1 (aw _).2, rfl⟩ rfl
  obtain ⟨r2, I2, J2, R2, c2, g2, f2, cs2, m2, q2⟩ := api (ol_533 501 (by decide)) (by decide) (L := L) (xs := xs) (d := 19) (vs := [.ref 86, .int a1]) (by decide) g1 ⟨g0_r (by decide), g0_i (aw _).1 (aw _).2, rfl⟩ rfl
  exact ⟨r1, r2, I1, I2, J1, J2, R1, R2, c1, c2, g1, g2, lwT_k f2 (by decide) (lwT_k f1 (by decide) hT.1), lwR_k f2 (by decide) (lwR_k f1 (by decide) hT.2)⟩
theorem sp_rule {L : Nat} {xs : Nat → Int32} {I : Nat → Nat → Int32} {J : Nat → Nat → Int64} {R : Nat → Nat → Nat} (hg : aGood (124, I, J, R)) (hT : lwI I R) (a1 a2 a3 : Int32) : ∃ (r1 r2 : Int32) (I1 I2 : Nat → Nat → Int32) (J1 J2 : Nat → Nat → Int64) (R1 R2 : Nat → Nat → Nat), xEv L xs 19 119 0 [.ref 0, .int a1, .int a2, .int a3, xmk] [] (124, I, J, R) (some (.int r1)) (124, I1, J1, R1) ∧ xEv L xs 19 221 0 [.ref 86, .int a1, .int a2, .int a3, xmk] [] (124, I1, J1, R1) (some (.int r2)) (124, I2, J2, R2) ∧ aGood (124, I1, J1, R1) ∧ aGood (124, I2, J2, R2) ∧ lwI I2 R2 := by
  obtain ⟨r1, I1, J1, R1, c1, g1, f1, cs1, m1, q1⟩ := api (ol_533 504 (by decide)) (by decide) (L := L) (xs := xs) (d := 19) (vs := [.ref 0, .int a1, .int a2, .int a3]) (by decide) hg ⟨g0_r (by decide), g0_i (aw _).1 (aw _).2, g0_i (aw _).1 (aw _).2, g0_i (aw _).1 (aw _).2, rfl⟩ rfl
  obtain ⟨r2, I2, J2, R2, c2, g2, f2, cs2, m2, q2⟩ := api (ol_533 506 (by decide)) (by decide) (L := L) (xs := xs) (d := 19) (vs := [.ref 86, .int a1, .int a2, .int a3]) (by decide) g1 ⟨g0_r (by decide), g0_i (aw _).1 (aw _).2, g0_i (aw _).1 (aw _).2, g0_i (aw _).1 (aw _).2, rfl⟩ rfl
  exact ⟨r1, r2, I1, I2, J1, J2, R1, R2, c1, c2, g1, g2, lwT_k f2 (by decide) (lwT_k f1 (by decide) hT.1), lwR_k f2 (by decide) (lwR_k f1 (by decide) hT.2)⟩
theorem sp_begin {L : Nat} {xs : Nat → Int32} {I : Nat → Nat → Int32} {J : Nat → Nat → Int64} {R : Nat → Nat → Nat} (hg : aGood (124, I, J, R)) (hT : lwI I R) (a1 : Int32) : ∃ (r1 r2 : Int32) (I1 I2 : Nat → Nat → Int32) (J1 J2 : Nat → Nat → Int64) (R1 R2 : Nat → Nat → Nat), xEv L xs 19 120 0 [.ref 0, .int a1] [] (124, I, J, R) (some (.int r1)) (124, I1, J1, R1) ∧ xEv L xs 19 222 0 [.ref 86, .int a1, xmk] [] (124, I1, J1, R1) (some (.int r2)) (124, I2, J2, R2) ∧ aGood (124, I1, J1, R1) ∧ aGood (124, I2, J2, R2) ∧ lwI I2 R2 := by
  obtain ⟨r1, I1, J1, R1, c1, g1, f1, cs1, m1, q1⟩ := api (ol_533 508 (by decide)) (by decide) (L := L) (xs := xs) (d := 19) (vs := [.ref 0, .int a1]) (by decide) hg ⟨g0_r (by decide), g0_i (aw _).1 (aw _).2, rfl⟩ rfl
  obtain ⟨r2, I2, J2, R2, c2, g2, f2, cs2, m2, q2⟩ := api (ol_533 509 (by decide)) (by decide) (L := L) (xs := xs) (d := 19) (vs := [.ref 86, .int a1]) (by decide) g1 ⟨g0_r (by decide), g0_i (aw _).1 (aw _).2, rfl⟩ rfl
  exact ⟨r1, r2, I1, I2, J1, J2, R1, R2, c1, c2, g1, g2, lwT_k f2 (by decide) (lwT_k f1 (by decide) hT.1), lwR_k f2 (by decide) (lwR_k f1 (by decide) hT.2)⟩
theorem sp_go {L : Nat} {xs : Nat → Int32} {I : Nat → Nat → Int32} {J : Nat → Nat → Int64} {R : Nat → Nat → Nat} (hg : aGood (124, I, J, R)) (hT : lwI I R) (a1 : Int32) : ∃ (r1 r2 : Int32) (I1 I2 : Nat → Nat → Int32) (J1 J2 : Nat → Nat → Int64) (R1 R2 : Nat → Nat → Nat), xEv L xs 19 122 0 [.ref 0, .int a1, xmk] [] (124, I, J, R) (some (.int r1)) (124, I1, J1, R1) ∧ xEv L xs 19 223 0 [.ref 86, .int a1, xmk] [] (124, I1, J1, R1) (some (.int r2)) (124, I2, J2, R2) ∧ aGood (124, I1, J1, R1) ∧ aGood (124, I2, J2, R2) ∧ lwI I2 R2 := by
  obtain ⟨r1, I1, J1, R1, c1, g1, f1, cs1, m1, q1⟩ := api (ol_533 510 (by decide)) (by decide) (L := L) (xs := xs) (d := 19) (vs := [.ref 0, .int a1]) (by decide) hg ⟨g0_r (by decide), g0_i (aw _).1 (aw _).2, rfl⟩ rfl
  obtain ⟨r2, I2, J2, R2, c2, g2, f2, cs2, m2, q2⟩ := api (ol_533 511 (by decide)) (by decide) (L := L) (xs := xs) (d := 19) (vs := [.ref 86, .int a1]) (by decide) g1 ⟨g0_r (by decide), g0_i (aw _).1 (aw _).2, rfl⟩ rfl
  exact ⟨r1, r2, I1, I2, J1, J2, R1, R2, c1, c2, g1, g2, lwT_k f2 (by decide) (lwT_k f1 (by decide) hT.1), lwR_k f2 (by decide) (lwR_k f1 (by decide) hT.2)⟩
theorem sp_now {L : Nat} {xs : Nat → Int32} {I : Nat → Nat → Int32} {J : Nat → Nat → Int64} {R : Nat → Nat → Nat} (hg : aGood (124, I, J, R)) (hT : lwI I R) (a1 a2 : Int32) : ∃ (r1 r2 : Int32) (I1 I2 : Nat → Nat → Int32) (J1 J2 : Nat → Nat → Int64) (R1 R2 : Nat → Nat → Nat), xEv L xs 19 133 0 [.ref 0, .int a1, .int a2] [] (124, I, J, R) (some (.int r1)) (124, I1, J1, R1) ∧ xEv L xs 19 231 0 [.ref 86, .int a1, .int a2] [] (124, I1, J1, R1) (some (.int r2)) (124, I2, J2, R2) ∧ aGood (124, I1, J1, R1) ∧ aGood (124, I2, J2, R2) ∧ lwI I2 R2 := by
  obtain ⟨r1, I1, J1, R1, c1, g1, f1, cs1, m1, q1⟩ := api (ol_533 512 (by decide)) (by decide) (L := L) (xs := xs) (d := 19) (vs := [.ref 0, .int a1, .int a2]) (by decide) hg ⟨g0_r (by decide), g0_i (aw _).1 (aw _).2, g0_i (aw _).1 (aw _).2, rfl⟩ rfl
  obtain ⟨r2, I2, J2, R2, c2, g2, f2, cs2, m2, q2⟩ := api (ol_533 514 (by decide)) (by decide) (L := L) (xs := xs) (d := 19) (vs := [.ref 86, .int a1, .int a2]) (by decide) g1 ⟨g0_r (by decide), g0_i (aw _).1 (aw _).2, g0_i (aw _).1 (aw _).2, rfl⟩ rfl
  exact ⟨r1, r2, I1, I2, J1, J2, R1, R2, c1, c2, g1, g2, lwT_k f2 (by decide) (lwT_k f1 (by decide) hT.1), lwR_k f2 (by decide) (lwR_k f1 (by decide) hT.2)⟩
theorem sp_head {L : Nat} {xs : Nat → Int32} {I : Nat → Nat → Int32} {J : Nat → Nat → Int64} {R : Nat → Nat → Nat} (hg : aGood (124, I, J, R)) (hT : lwI I R) (a1 a2 : Int32) : ∃ (r1 r2 : Int32) (I1 I2 : Nat → Nat → Int32) (J1 J2 : Nat → Nat → Int64) (R1 R2 : Nat → Nat → Nat), xEv L xs 19 134 0 [.ref 0, .int a1, .int a2] [] (124, I, J, R) (some (.int r1)) (124, I1, J1, R1) ∧ xEv L xs 19 232 0 [.ref 86, .int a1, .int a2] [] (124, I1, J1, R1) (some (.int r2)) (124, I2, J2, R2) ∧ aGood (124, I1, J1, R1) ∧ aGood (124, I2, J2, R2) ∧ lwI I2 R2 := by
  obtain ⟨r1, I1, J1, R1, c1, g1, f1, cs1, m1, q1⟩ := api (ol_533 516 (by decide)) (by decide) (L := L) (xs := xs) (d := 19) (vs := [.ref 0, .int a1, .int a2]) (by decide) hg ⟨g0_r (by decide), g0_i (aw _).1 (aw _).2, g0_i (aw _).1 (aw _).2, rfl⟩ rfl
  obtain ⟨r2, I2, J2, R2, c2, g2, f2, cs2, m2, q2⟩ := api (ol_533 518 (by decide)) (by decide) (L := L) (xs := xs) (d := 19) (vs := [.ref 86, .int a1, .int a2]) (by decide) g1 ⟨g0_r (by decide), g0_i (aw _).1 (aw _).2, g0_i (aw _).1 (aw _).2, rfl⟩ rfl
  exact ⟨r1, r2, I1, I2, J1, J2, R1, R2, c1, c2, g1, g2, lwT_k f2 (by decide) (lwT_k f1 (by decide) hT.1), lwR_k f2 (by decide) (lwR_k f1 (by decide) hT.2)⟩
theorem sp_keep {L : Nat} {xs : Nat → Int32} {I : Nat → Nat → Int32} {J : Nat → Nat → Int64} {R : Nat → Nat → Nat} (hg : aGood (124, I, J, R)) (hT : lwI I R) (a1 : Int32) : ∃ (r1 r2 : Int32) (I1 I2 : Nat → Nat → Int32) (J1 J2 : Nat → Nat → Int64) (R1 R2 : Nat → Nat → Nat), xEv L xs 19 135 0 [.ref 0, .int a1, xmk] [] (124, I, J, R) (some (.int r1)) (124, I1, J1, R1) ∧ xEv L xs 19 233 0 [.ref 86, .int a1, xmk] [] (124, I1, J1, R1) (some (.int r2)) (124, I2, J2, R2) ∧ aGood (124, I1, J1, R1) ∧ aGood (124, I2, J2, R2) ∧ lwI I2 R2 := by
  obtain ⟨r1, I1, J1, R1, c1, g1, f1, cs1, m1, q1⟩ := api (ol_533 521 (by decide)) (by decide) (L := L) (xs := xs) (d := 19) (vs := [.ref 0, .int a1]) (by decide) hg ⟨g0_r (by decide), g0_i (aw _).1 (aw _).2, rfl⟩ rfl
  obtain ⟨r2, I2, J2, R2, c2, g2, f2, cs2, m2, q2⟩ := api (ol_533 523 (by decide)) (by decide) (L := L) (xs := xs) (d := 19) (vs := [.ref 86, .int a1]) (by decide) g1 ⟨g0_r (by decide), g0_i (aw _).1 (aw _).2, rfl⟩ rfl
  exact ⟨r1, r2, I1, I2, J1, J2, R1, R2, c1, c2, g1, g2, lwT_k f2 (by decide) (lwT_k f1 (by decide) hT.1), lwR_k f2 (by decide) (lwR_k f1 (by decide) hT.2)⟩
theorem sp_take {L : Nat} {xs : Nat → Int32} {I : Nat → Nat → Int32} {J : Nat → Nat → Int64} {R : Nat → Nat → Nat} (hg : aGood (124, I, J, R)) (hT : lwI I R) (a1 : Int32) : ∃ (r1 r2 : Int32) (I1 I2 : Nat → Nat → Int32) (J1 J2 : Nat → Nat → Int64) (R1 R2 : Nat → Nat → Nat), xEv L xs 19 138 0 [.ref 0, .int a1, xmk] [] (124, I, J, R) (some (.int r1)) (124, I1, J1, R1) ∧ xEv L xs 19 235 0 [.ref 86, .int a1, xmk] [] (124, I1, J1, R1) (some (.int r2)) (124, I2, J2, R2) ∧ aGood (124, I1, J1, R1) ∧ aGood (124, I2, J2, R2) ∧ lwI I2 R2 := by
  obtain ⟨r1, I1, J1, R1, c1, g1, f1, cs1, m1, q1⟩ := api (ol_533 525 (by decide)) (by decide) (L := L) (xs := xs) (d := 19) (vs := [.ref 0, .int a1]) (by decide) hg ⟨g0_r (by decide), g0_i (aw _).1 (aw _).2, rfl⟩ rfl
  obtain ⟨r2, I2, J2, R2, c2, g2, f2, cs2, m2, q2⟩ := api (ol_533 526 (by decide)) (by decide) (L := L) (xs := xs) (d := 19) (vs := [.ref 86, .int a1]) (by decide) g1 ⟨g0_r (by decide), g0_i (aw _).1 (aw _).2, rfl⟩ rfl
  exact ⟨r1, r2, I1, I2, J1, J2, R1, R2, c1, c2, g1, g2, lwT_k f2 (by decide) (lwT_k f1 (by decide) hT.1), lwR_k f2 (by decide) (lwR_k f1 (by decide) hT.2)⟩
theorem sp_count {L : Nat} {xs : Nat → Int32} {I : Nat → Nat → Int32} {J : Nat → Nat → Int64} {R : Nat → Nat → Nat} (hg : aGood (124, I, J, R)) (hT : lwI I R) (a1 : Int32) : ∃ (r1 r2 : Int32) (I1 I2 : Nat → Nat → Int32) (J1 J2 : Nat → Nat → Int64) (R1 R2 : Nat → Nat → Nat), xEv L xs 19 139 0 [.ref 0, .int a1] [] (124, I, J, R) (some (.int r1)) (124, I1, J1, R1) ∧ xEv L xs 19 236 0 [.ref 86, .int a1] [] (124, I1, J1, R1) (some (.int r2)) (124, I2, J2, R2) ∧ aGood (124, I1, J1, R1) ∧ aGood (124, I2, J2, R2) ∧ lwI I2 R2 := by
  obtain ⟨r1, I1, J1, R1, c1, g1, f1, cs1, m1, q1⟩ := api (ol_533 527 (by decide)) (by decide) (L := L) (xs := xs) (d := 19) (vs := [.ref 0, .int a1]) (by decide) hg ⟨g0_r (by decide), g0_i (aw _).1 (aw _).2, rfl⟩ rfl
  obtain ⟨r2, I2, J2, R2, c2, g2, f2, cs2, m2, q2⟩ := api (ol_533 528 (by decide)) (by decide) (L := L) (xs := xs) (d := 19) (vs := [.ref 86, .int a1]) (by decide) g1 ⟨g0_r (by decide), g0_i (aw _).1 (aw _).2, rfl⟩ rfl
  exact ⟨r1, r2, I1, I2, J1, J2, R1, R2, c1, c2, g1, g2, lwT_k f2 (by decide) (lwT_k f1 (by decide) hT.1), lwR_k f2 (by decide) (lwR_k f1 (by decide) hT.2)⟩
