theorem sr_feed {L : Nat} {xs : Nat → Int32} {I : Nat → Nat → Int32} {J : Nat → Nat → Int64} {R : Nat → Nat → Nat} (hg : aGood (124, I, J, R)) (hT : lwA I J R) (a1 a2 a3 a4 a5 : Int32) : ∃ (r1 r2 : Int32) (I1 I2 : Nat → Nat → Int32) (J1 J2 : Nat → Nat → Int64) (R1 R2 : Nat → Nat → Nat), xEv L xs 19 14 0 [.ref 0, .int a1, .int a2, .int a3, .int a4, .int a5] [] (124, I, J, R) (some (.int r1)) (124, I1, J1, R1) ∧ xEv L xs 19 145 0 [.ref 86, .int a1, .int a2, .int a3, .int a4, .int a5, xmk, xmk, xmk] [] (124, I1, J1, R1) (some (.int r2)) (124, I2, J2, R2) ∧ aGood (124, I1, J1, R1) ∧ aGood (124, I2, J2, R2) ∧ lwA I2 J2 R2 ∧ r2 = r1 := by
  obtain ⟨r1, r2, I1, I2, J1, J2, R1, R2, c1, c2, g1, g2, hT2, e⟩ := sp_feed (L := L) (xs := xs) hg hT.1 a1 a2 a3 a4 a5
  obtain ⟨r1', I1', J1', R1', c1', g1', f1, cs1, m1, q1⟩ := api (ol_533 113 (by decide)) (by decide) (L := L) (xs := xs) (d := 19) (vs := [.ref 0, .int a1, .int a2, .int a3, .int a4, .int a5]) (by decide) hg ⟨g0_r (by decide), g0_i (aw _).1 (aw _).2, g0_i (aw _).1 (aw _).2, g0_i (aw _).1 (aw _).2, g0_i (aw _).1 (aw _).2, g0_i (aw _).1 (aw _).2, rfl⟩ rfl
  obtain ⟨y1, z1⟩ := ev_det c1 c1'
  cases y1
  cases z1
  obtain ⟨r2', I2', J2', R2', c2', g2', f2, cs2, m2, q2⟩ := api (ol_533 114 (by decide)) (by decide) (L := L) (xs := xs) (d := 19) (vs := [.ref 86, .int a1, .int a2, .int a3, .int a4, .int a5]) (by decide) g1 ⟨g0_r (by decide), g0_i (aw _).1 (aw _).2, g0_i (aw _).1 (aw _).2, g0_i (aw _).1 (aw _).2, g0_i (aw _).1 (aw _).2, g0_i (aw _).1 (aw _).2, rfl⟩ rfl
  obtain ⟨y2, z2⟩ := ev_det c2 c2'
  cases y2
  cases z2
  exact ⟨r1, r2, I1, I2, J1, J2, R1, R2, c1, c2, g1, g2, ⟨hT2, lwL_k f2 rfl (lwL_k f1 rfl hT.2.1), lwP_k f2 rfl (lwP_k f1 rfl hT.2.2)⟩, e⟩
theorem sr_end {L : Nat} {xs : Nat → Int32} {I : Nat → Nat → Int32} {J : Nat → Nat → Int64} {R : Nat → Nat → Nat} (hg : aGood (124, I, J, R)) (hT : lwA I J R) (a1 : Int32) : ∃ (r1 r2 : Int32) (I1 I2 : Nat → Nat → Int32) (J1 J2 : Nat → Nat → Int64) (R1 R2 : Nat → Nat → Nat), xEv L xs 19 16 0 [.ref 0, .int a1] [] (124, I, J, R) (some (.int r1)) (124, I1, J1, R1) ∧ xEv L xs 19 146 0 [.ref 86, .int a1] [] (124, I1, J1, R1) (some (.int r2)) (124, I2, J2, R2) ∧ aGood (124, I1, J1, R1) ∧ aGood (124, I2, J2, R2) ∧ lwA I2 J2 R2 ∧ r2 = r1 := by
  obtain ⟨r1, r2, I1, I2, J1, J2, R1, R2, c1, c2, g1, g2, hT2, e⟩ := sp_end (L := L) (xs := xs) hg hT.1 a1
  obtain ⟨r1', I1', J1', R1', c1', g1', f1, cs1, m1, q1⟩ := api (ol_533 115 (by decide)) (by decide) (L := L) (xs := xs) (d := 19) (vs := [.ref 0, .int a1]) (by decide) hg ⟨g0_r (by decide), g0_i (aw _).1 (aw _).2, rfl⟩ rfl
  obtain ⟨y1, z1⟩ := ev_det c1 c1'
  cases y1
  cases z1
  obtain ⟨r2', I2', J2', R2', c2', g2', f2, cs2, m2, q2⟩ := api (ol_533 116 (by decide)) (by decide) (L := L) (xs := xs) (d := 19) (vs := [.ref 86, .int a1]) (by decide) g1 ⟨g0_r (by decide), g0_i (aw _).1 (aw _).2, rfl⟩ rfl
  obtain ⟨y2, z2⟩ := ev_det c2 c2'
  cases y2
  cases z2
  exact ⟨r1, r2, I1, I2, J1, J2, R1, R2, c1, c2, g1, g2, ⟨hT2, lwL_k f2 rfl (lwL_k f1 rfl hT.2.1), lwP_k f2 rfl (lwP_k f1 rfl hT.2.2)⟩, e⟩
theorem sr_village {L : Nat} {xs : Nat → Int32} {I : Nat → Nat → Int32} {J : Nat → Nat → Int64} {R : Nat → Nat → Nat} (hg : aGood (124, I, J, R)) (hT : lwA I J R) : ∃ (r1 r2 : Int32) (I1 I2 : Nat → Nat → Int32) (J1 J2 : Nat → Nat → Int64) (R1 R2 : Nat → Nat → Nat), xEv L xs 19 17 0 [.ref 0, xmk, xmk] [] (124, I, J, R) (some (.int r1)) (124, I1, J1, R1) ∧ xEv L xs 19 148 0 [.ref 86, xmk] [] (124, I1, J1, R1) (some (.int r2)) (124, I2, J2, R2) ∧ aGood (124, I1, J1, R1) ∧ aGood (124, I2, J2, R2) ∧ lwA I2 J2 R2 ∧ r2 = r1 := by
  obtain ⟨r1, r2, I1, I2, J1, J2, R1, R2, c1, c2, g1, g2, hT2, e⟩ := sp_village (L := L) (xs := xs) hg hT.1
  obtain ⟨r1', I1', J1', R1', c1', g1', f1, cs1, m1, q1⟩ := api (ol_533 305 (by decide)) (by decide) (L := L) (xs := xs) (d := 19) (vs := [.ref 0]) (by decide) hg ⟨g0_r (by decide), rfl⟩ rfl
  obtain ⟨y1, z1⟩ := ev_det c1 c1'
  cases y1
  cases z1
  obtain ⟨r2', I2', J2', R2', c2', g2', f2, cs2, m2, q2⟩ := api (ol_533 333 (by decide)) (by decide) (L := L) (xs := xs) (d := 19) (vs := [.ref 86]) (by decide) g1 ⟨g0_r (by decide), rfl⟩ rfl
  obtain ⟨y2, z2⟩ := ev_det c2 c2'
  cases y2
  cases z2
  have b1 := good_int hg 1 1 rfl
  have b2 : (aRng 1 1) = (0, 900) := rfl
  rw [b2] at b1
  dsimp only at b1
  obtain ⟨n, hn⟩ := Int.eq_ofNat_of_zero_le b1.1
  have hn' : (I 1 1).toInt = n := hn
  have p1 : I1 86 1 = I 86 1 := fr_int f1 86 1 rfl
  have p2 : ∀ q, I1 87 q = I 87 q := fun q => kp_i f1 (c := 87) (k := q) (p := 265) rfl (by decide)
  have hb : bM I1 n = bX I n := by
    funext q
    unfold bM bX
    by_cases h : q < n
    · rw [if_pos h, if_pos h, p2]
      exact hT.1.1.2 q (by omega)
    · rw [if_neg h, if_neg h]
  have hm' : (I1 86 1).toInt = n := by rw [p1, ← hT.1.1.1]; exact hn
  have n16 := nm_16 hT.1.2.1
  have h94 : ∀ k, k < 16 → 0 ≤ (I2 94 k).toInt ∧ (I2 94 k).toInt ≤ 23 := by
    intro q hq
    have z : aIn2 (aRng 94 q) (I2 94 q) := g2.2.1 94 q (show q < 32 by omega)
    rw [show aRng 94 q = (0, 23) from rfl] at z
    exact ⟨z.1, z.2⟩
  obtain ⟨⟨hT1, ⟨np0, nm0, nn0, l0, hV⟩, hK, hF⟩, hL, hP⟩ := hT
  refine ⟨r1, r2, I1, I2, J1, J2, R1, R2, c1, c2, g1, g2, ⟨hT2, ?_⟩, e⟩
  rcases hV with ⟨h8, h9, hV⟩ | ⟨h8, h9, hV⟩
  · rcases vil_23 (L := L) (xs := xs) (d := 11) (d' := 13) (Jc := J) (Jr := J1) (gd_of hg) h9 h8 (gd_of g1) (by decide) (by omega) hn' hm' hb with ⟨Ic, Ir, Jc, Jr, x1, x2, u8, u9, fr, fc⟩ | ⟨mm, Ic, Ir, Jc, Jr, np, nm, nn, l, x1, x2, u8, u9, hV2, k1, k2, k3, -, -, fc, fr, -, hl⟩
    · have eI1 : I1 = uI Ic 1 1 0 := congrArg (fun h : xH => h.2.1) (ev_det c1 x1).2
      have eI2 : I2 = Ir := congrArg (fun h : xH => h.2.1) (ev_det c2 x2).2
      have eR1 : R1 = _ := congrArg (fun h : xH => h.2.2.2) (ev_det c1 x1).2
      have eR2 : R2 = R1 := congrArg (fun h : xH => h.2.2.2) (ev_det c2 x2).2
      have w : ∀ c q, c ≠ 1 → ¬ (23 ≤ c ∧ c ≤ 37) → c ≠ 43 → ¬ (c = 86 ∧ q ≤ 11) → ¬ (c = 88 ∧ 3 ≤ q) → ¬ (90 ≤ c ∧ c ≤ 100 ∧ ¬ (c = 94 ∧ q < 16)) → I2 c q = I c q := fun c q t1 t2 t3 t4 t5 t6 => by rw [eI2, fr c q (by omega) (by omega) (by omega) (by omega) (by omega), eI1, uI_n _ _ (by omega)]; exact fc c q (by omega) (by omega) (by omega)
      refine ⟨lwL_w n16 (w 88 1 (by omega) (by omega) (by omega) (by omega) (by omega) (by omega)) (w 86 26 (by omega) (by omega) (by omega) (by omega) (by omega) (by omega)) (fun t => w 101 t (by omega) (by omega) (by omega) (by omega) (by omega) (by omega)) (fun t => w 102 t (by omega) (by omega) (by omega) (by omega) (by omega) (by omega)) (fun k hk => w 94 k (by omega) (by omega) (by omega) (by omega) (by omega) (by omega)) hL, ?_⟩
      have e8 : R2 0 8 = R 0 8 := by rw [eR2, eR1]; rfl
      have ew : zWf_3 I2 = zWf_3 I := zWf_e_3 (w _ _ (by omega) (by omega) (by omega) (by omega) (by omega) (by omega)) (w _ _ (by omega) (by omega) (by omega) (by omega) (by omega) (by omega)) (w _ _ (by omega) (by omega) (by omega) (by omega) (by omega) (by omega)) (fun c hc k => w c k (by omega) (by omega) (by omega) (by omega) (by omega) (by omega))
      rcases hP with h | ⟨h, h3, h23⟩
      · exact Or.inl (by rw [w 57 8 (by omega) (by omega) (by omega) (by omega) (by omega) (by omega)]; exact h)
      · refine Or.inr ⟨by rw [w 57 8 (by omega) (by omega) (by omega) (by omega) (by omega) (by omega)]; exact h, fun r => ?_, fun r => ?_⟩
        · rw [e8] at r
          obtain ⟨a, b⟩ := h3 r
          unfold yPW_3
          rw [ew, w 57 6 (by omega) (by omega) (by omega) (by omega) (by omega) (by omega)]
          exact ⟨a, yW_e b (fun j => w 61 j (by omega) (by omega) (by omega) (by omega) (by omega) (by omega))⟩
        · rw [e8] at r
          omega
    · have eI1 : I1 = _ := congrArg (fun h : xH => h.2.1) (ev_det c1 x1).2
      have eI2 : I2 = Ir := congrArg (fun h : xH => h.2.1) (ev_det c2 x2).2
      have w2 : ∀ c q, c < 86 → I2 c q = I1 c q := fun c q t1 => by rw [eI2]; exact fr c q (by omega) (by omega) (by omega) (by omega)
      refine ⟨?_, Or.inl (by rw [w2 57 8 (by omega), eI1]; rfl)⟩
      obtain ⟨⟨p1, p2, p3⟩, p4, p5, p6, -, ⟨q3, q4⟩, -, -, q8, -, ⟨q10, q11⟩, q12, -⟩ := hV2
      rw [← eI2] at q4 q8 q11 q12
      have ec := clamp_s (i := I2 88 1) (by omega)
      have em : (I2 88 1).toNatClampNeg = nm := by omega
      refine ⟨l, ⟨?_, fun k hk => h94 k (by omega)⟩, q11, fun t a b ht => ⟨(q12 t a b ht).2.1, (q12 t a b ht).2.2.2.1⟩⟩
      rw [em, hl]
      exact tOut_e (fun k hk => by rw [(q8 k hk).2.2.1]) 96
  · rcases vil_3 (L := L) (xs := xs) (d := 11) (d' := 13) (Jc := J) (Jr := J1) (gd_of hg) h9 h8 (gd_of g1) (by decide) (by omega) hn' hm' hb with ⟨Ic, Ir, Jc, Jr, x1, x2, u8, u9, fr, fc⟩ | ⟨mm, Ic, Ir, Jc, Jr, np, nm, nn, l, x1, x2, u8, u9, hV2, k1, k2, k3, -, -, fc, fr, -, hl⟩
    · have eI1 : I1 = uI Ic 1 1 0 := congrArg (fun h : xH => h.2.1) (ev_det c1 x1).2
      have eI2 : I2 = Ir := congrArg (fun h : xH => h.2.1) (ev_det c2 x2).2
      have eR1 : R1 = _ := congrArg (fun h : xH => h.2.2.2) (ev_det c1 x1).2
      have eR2 : R2 = R1 := congrArg (fun h : xH => h.2.2.2) (ev_det c2 x2).2
      have w : ∀ c q, c ≠ 1 → ¬ (3 ≤ c ∧ c ≤ 17) → c ≠ 43 → ¬ (c = 86 ∧ q ≤ 11) → ¬ (c = 88 ∧ 3 ≤ q) → ¬ (90 ≤ c ∧ c ≤ 100 ∧ ¬ (c = 94 ∧ q < 16)) → I2 c q = I c q := fun c q t1 t2 t3 t4 t5 t6 => by rw [eI2, fr c q (by omega) (by omega) (by omega) (by omega) (by omega), eI1, uI_n _ _ (by omega)]; exact fc c q (by omega) (by omega) (by omega)
      refine ⟨lwL_w n16 (w 88 1 (by omega) (by omega) (by omega) (by omega) (by omega) (by omega)) (w 86 26 (by omega) (by omega) (by omega) (by omega) (by omega) (by omega)) (fun t => w 101 t (by omega) (by omega) (by omega) (by omega) (by omega) (by omega)) (fun t => w 102 t (by omega) (by omega) (by omega) (by omega) (by omega) (by omega)) (fun k hk => w 94 k (by omega) (by omega) (by omega) (by omega) (by omega) (by omega)) hL, ?_⟩
      have e8 : R2 0 8 = R 0 8 := by rw [eR2, eR1]; rfl
      have ew : zWf_23 I2 = zWf_23 I := zWf_e_23 (w _ _ (by omega) (by omega) (by omega) (by omega) (by omega) (by omega)) (w _ _ (by omega) (by omega) (by omega) (by omega) (by omega) (by omega)) (w _ _ (by omega) (by omega) (by omega) (by omega) (by omega) (by omega)) (fun c hc k => w c k (by omega) (by omega) (by omega) (by omega) (by omega) (by omega))
      rcases hP with h | ⟨h, h3, h23⟩
      · exact Or.inl (by rw [w 57 8 (by omega) (by omega) (by omega) (by omega) (by omega) (by omega)]; exact h)
      · refine Or.inr ⟨by rw [w 57 8 (by omega) (by omega) (by omega) (by omega) (by omega) (by omega)]; exact h, fun r => ?_, fun r => ?_⟩
        · rw [e8] at r
          omega
        · rw [e8] at r
          obtain ⟨a, b⟩ := h23 r
          unfold yPW_23
          rw [ew, w 57 6 (by omega) (by omega) (by omega) (by omega) (by omega) (by omega)]
          exact ⟨a, yW_e b (fun j => w 61 j (by omega) (by omega) (by omega) (by omega) (by omega) (by omega))⟩
    · have eI1 : I1 = _ := congrArg (fun h : xH => h.2.1) (ev_det c1 x1).2
      have eI2 : I2 = Ir := congrArg (fun h : xH => h.2.1) (ev_det c2 x2).2
      have w2 : ∀ c q, c < 86 → I2 c q = I1 c q := fun c q t1 => by rw [eI2]; exact fr c q (by omega) (by omega) (by omega) (by omega)
      refine ⟨?_, Or.inl (by rw [w2 57 8 (by omega), eI1]; rfl)⟩
      obtain ⟨⟨p1, p2, p3⟩, p4, p5, p6, -, ⟨q3, q4⟩, -, -, q8, -, ⟨q10, q11⟩, q12, -⟩ := hV2
      rw [← eI2] at q4 q8 q11 q12
      have ec := clamp_s (i := I2 88 1) (by omega)
      have em : (I2 88 1).toNatClampNeg = nm := by omega
      refine ⟨l, ⟨?_, fun k hk => h94 k (by omega)⟩, q11, fun t a b ht => ⟨(q12 t a b ht).2.1, (q12 t a b ht).2.2.2.1⟩⟩
      rw [em, hl]
      exact tOut_e (fun k hk => by rw [(q8 k hk).2.2.1]) 96
theorem sr_fault {L : Nat} {xs : Nat → Int32} {I : Nat → Nat → Int32} {J : Nat → Nat → Int64} {R : Nat → Nat → Nat} (hg : aGood (124, I, J, R)) (hT : lwA I J R) (a1 : Int32) : ∃ (r1 r2 : Int32) (I1 I2 : Nat → Nat → Int32) (J1 J2 : Nat → Nat → Int64) (R1 R2 : Nat → Nat → Nat), xEv L xs 19 47 0 [.ref 0, .int a1] [] (124, I, J, R) (some (.int r1)) (124, I1, J1, R1) ∧ xEv L xs 19 147 0 [.ref 86, .int a1] [] (124, I1, J1, R1) (some (.int r2)) (124, I2, J2, R2) ∧ aGood (124, I1, J1, R1) ∧ aGood (124, I2, J2, R2) ∧ lwA I2 J2 R2 ∧ r2 = r1 := by
  obtain ⟨r1, r2, I1, I2, J1, J2, R1, R2, c1, c2, g1, g2, hT2, e⟩ := sp_fault (L := L) (xs := xs) hg hT.1 a1
  obtain ⟨r1', I1', J1', R1', c1', g1', f1, cs1, m1, q1⟩ := api (ol_533 334 (by decide)) (by decide) (L := L) (xs := xs) (d := 19) (vs := [.ref 0, .int a1]) (by decide) hg ⟨g0_r (by decide), g0_i (aw _).1 (aw _).2, rfl⟩ rfl
  obtain ⟨y1, z1⟩ := ev_det c1 c1'
  cases y1
  cases z1
  obtain ⟨r2', I2', J2', R2', c2', g2', f2, cs2, m2, q2⟩ := api (ol_533 335 (by decide)) (by decide) (L := L) (xs := xs) (d := 19) (vs := [.ref 86, .int a1]) (by decide) g1 ⟨g0_r (by decide), g0_i (aw _).1 (aw _).2, rfl⟩ rfl
  obtain ⟨y2, z2⟩ := ev_det c2 c2'
  cases y2
  cases z2
  exact ⟨r1, r2, I1, I2, J1, J2, R1, R2, c1, c2, g1, g2, ⟨hT2, lwL_k f2 rfl (lwL_k f1 rfl hT.2.1), lwP_k f2 rfl (lwP_k f1 rfl hT.2.2)⟩, e⟩
theorem sr_told {L : Nat} {xs : Nat → Int32} {I : Nat → Nat → Int32} {J : Nat → Nat → Int64} {R : Nat → Nat → Nat} (hg : aGood (124, I, J, R)) (hT : lwA I J R) (a1 : Int32) : ∃ (r1 r2 : Int32) (I1 I2 : Nat → Nat → Int32) (J1 J2 : Nat → Nat → Int64) (R1 R2 : Nat → Nat → Nat), xEv L xs 19 48 0 [.ref 0, .int a1, xmk] [] (124, I, J, R) (some (.int r1)) (124, I1, J1, R1) ∧ xEv L xs 19 166 0 [.ref 86, .int a1, xmk] [] (124, I1, J1, R1) (some (.int r2)) (124, I2, J2, R2) ∧ aGood (124, I1, J1, R1) ∧ aGood (124, I2, J2, R2) ∧ lwA I2 J2 R2 := by
  obtain ⟨r1, r2, I1, I2, J1, J2, R1, R2, c1, c2, g1, g2, hT2⟩ := sp_told (L := L) (xs := xs) hg hT.1 a1
  obtain ⟨r1', I1', J1', R1', c1', g1', f1, cs1, m1, q1⟩ := api (ol_533 347 (by decide)) (by decide) (L := L) (xs := xs) (d := 19) (vs := [.ref 0, .int a1]) (by decide) hg ⟨g0_r (by decide), g0_i (aw _).1 (aw _).2, rfl⟩ rfl
  obtain ⟨y1, z1⟩ := ev_det c1 c1'
  cases y1
  cases z1
  obtain ⟨r2', I2', J2', R2', c2', g2', f2, cs2, m2, q2⟩ := api (ol_533 352 (by decide)) (by decide) (L := L) (xs := xs) (d := 19) (vs := [.ref 86, .int a1]) (by decide) g1 ⟨g0_r (by decide), g0_i (aw _).1 (aw _).2, rfl⟩ rfl
  obtain ⟨y2, z2⟩ := ev_det c2 c2'
  cases y2
  cases z2
  exact ⟨r1, r2, I1, I2, J1, J2, R1, R2, c1, c2, g1, g2, ⟨hT2, lwL_k f2 rfl (lwL_k f1 rfl hT.2.1), lwP_k f2 rfl (lwP_k f1 rfl hT.2.2)⟩⟩
theorem sr_meeting {L : Nat} {xs : Nat → Int32} {I : Nat → Nat → Int32} {J : Nat → Nat → Int64} {R : Nat → Nat → Nat} (hg : aGood (124, I, J, R)) (hT : lwA I J R) (a1 a2 : Int32) : ∃ (r1 r2 : Int32) (I1 I2 : Nat → Nat → Int32) (J1 J2 : Nat → Nat → Int64) (R1 R2 : Nat → Nat → Nat), xEv L xs 19 51 0 [.ref 0, .int a1, .int a2] [] (124, I, J, R) (some (.int r1)) (124, I1, J1, R1) ∧ xEv L xs 19 169 0 [.ref 86, .int a1, .int a2] [] (124, I1, J1, R1) (some (.int r2)) (124, I2, J2, R2) ∧ aGood (124, I1, J1, R1) ∧ aGood (124, I2, J2, R2) ∧ lwA I2 J2 R2 := by
  obtain ⟨r1, r2, I1, I2, J1, J2, R1, R2, c1, c2, g1, g2, hT2⟩ := sp_meeting (L := L) (xs := xs) hg hT.1 a1 a2
  obtain ⟨r1', I1', J1', R1', c1', g1', f1, cs1, m1, q1⟩ := api (ol_533 357 (by decide)) (by decide) (L := L) (xs := xs) (d := 19) (vs := [.ref 0, .int a1, .int a2]) (by decide) hg ⟨g0_r (by decide), g0_i (aw _).1 (aw _).2, g0_i (aw _).1 (aw _).2, rfl⟩ rfl
  obtain ⟨y1, z1⟩ := ev_det c1 c1'
  cases y1
  cases z1
  obtain ⟨r2', I2', J2', R2', c2', g2', f2, cs2, m2, q2⟩ := api (ol_533 359 (by decide)) (by decide) (L := L) (xs := xs) (d := 19) (vs := [.ref 86, .int a1, .int a2]) (by decide) g1 ⟨g0_r (by decide), g0_i (aw _).1 (aw _).2, g0_i (aw _).1 (aw _).2, rfl⟩ rfl
  obtain ⟨y2, z2⟩ := ev_det c2 c2'
  cases y2
  cases z2
  exact ⟨r1, r2, I1, I2, J1, J2, R1, R2, c1, c2, g1, g2, ⟨hT2, lwL_k f2 rfl (lwL_k f1 rfl hT.2.1), lwP_k f2 rfl (lwP_k f1 rfl hT.2.2)⟩⟩
theorem sr_time {L : Nat} {xs : Nat → Int32} {I : Nat → Nat → Int32} {J : Nat → Nat → Int64} {R : Nat → Nat → Nat} (hg : aGood (124, I, J, R)) (hT : lwA I J R) (a1 a2 : Int32) : ∃ (r1 r2 : Int32) (I1 I2 : Nat → Nat → Int32) (J1 J2 : Nat → Nat → Int64) (R1 R2 : Nat → Nat → Nat), xEv L xs 19 52 0 [.ref 0, .int a1, .int a2] [] (124, I, J, R) (some (.int r1)) (124, I1, J1, R1) ∧ xEv L xs 19 170 0 [.ref 86, .int a1, .int a2] [] (124, I1, J1, R1) (some (.int r2)) (124, I2, J2, R2) ∧ aGood (124, I1, J1, R1) ∧ aGood (124, I2, J2, R2) ∧ lwA I2 J2 R2 := by
  obtain ⟨r1, r2, I1, I2, J1, J2, R1, R2, c1, c2, g1, g2, hT2⟩ := sp_time (L := L) (xs := xs) hg hT.1 a1 a2
  obtain ⟨r1', I1', J1', R1', c1', g1', f1, cs1, m1, q1⟩ := api (ol_533 362 (by decide)) (by decide) (L := L) (xs := xs) (d := 19) (vs := [.ref 0, .int a1, .int a2]) (by decide) hg ⟨g0_r (by decide), g0_i (aw _).1 (aw _).2, g0_i (aw _).1 (aw _).2, rfl⟩ rfl
  obtain ⟨y1, z1⟩ := ev_det c1 c1'
  cases y1
  cases z1
  obtain ⟨r2', I2', J2', R2', c2', g2', f2, cs2, m2, q2⟩ := api (ol_533 364 (by decide)) (by decide) (L := L) (xs := xs) (d := 19) (vs := [.ref 86, .int a1, .int a2]) (by decide) g1 ⟨g0_r (by decide), g0_i (aw _).1 (aw _).2, g0_i (aw _).1 (aw _).2, rfl⟩ rfl
  obtain ⟨y2, z2⟩ := ev_det c2 c2'
  cases y2
  cases z2
  exact ⟨r1, r2, I1, I2, J1, J2, R1, R2, c1, c2, g1, g2, ⟨hT2, lwL_k f2 rfl (lwL_k f1 rfl hT.2.1), lwP_k f2 rfl (lwP_k f1 rfl hT.2.2)⟩⟩
theorem sr_judge {L : Nat} {xs : Nat → Int32} {I : Nat → Nat → Int32} {J : Nat → Nat → Int64} {R : Nat → Nat → Nat} (hg : aGood (124, I, J, R)) (hT : lwA I J R) : ∃ (r1 r2 : Int32) (I1 I2 : Nat → Nat → Int32) (J1 J2 : Nat → Nat → Int64) (R1 R2 : Nat → Nat → Nat), xEv L xs 19 53 0 [.ref 0, xmk] [] (124, I, J, R) (some (.int r1)) (124, I1, J1, R1) ∧ xEv L xs 19 172 0 [.ref 86, xmk, xmk] [] (124, I1, J1, R1) (some (.int r2)) (124, I2, J2, R2) ∧ aGood (124, I1, J1, R1) ∧ aGood (124, I2, J2, R2) ∧ lwA I2 J2 R2 := by
  obtain ⟨r1, r2, I1, I2, J1, J2, R1, R2, c1, c2, g1, g2, hT2⟩ := sp_judge (L := L) (xs := xs) hg hT.1
  obtain ⟨r1', I1', J1', R1', c1', g1', f1, cs1, m1, q1⟩ := api (ol_533 380 (by decide)) (by decide) (L := L) (xs := xs) (d := 19) (vs := [.ref 0]) (by decide) hg ⟨g0_r (by decide), rfl⟩ rfl
  obtain ⟨y1, z1⟩ := ev_det c1 c1'
  cases y1
  cases z1
  obtain ⟨r2', I2', J2', R2', c2', g2', f2, cs2, m2, q2⟩ := api (ol_533 385 (by decide)) (by decide) (L := L) (xs := xs) (d := 19) (vs := [.ref 86]) (by decide) g1 ⟨g0_r (by decide), rfl⟩ rfl
  obtain ⟨y2, z2⟩ := ev_det c2 c2'
  cases y2
  cases z2
  exact ⟨r1, r2, I1, I2, J1, J2, R1, R2, c1, c2, g1, g2, ⟨hT2, lwL_k f2 rfl (lwL_k f1 rfl hT.2.1), lwP_k f2 rfl (lwP_k f1 rfl hT.2.2)⟩⟩
theorem sr_judged {L : Nat} {xs : Nat → Int32} {I : Nat → Nat → Int32} {J : Nat → Nat → Int64} {R : Nat → Nat → Nat} (hg : aGood (124, I, J, R)) (hT : lwA I J R) (a1 a2 : Int32) : ∃ (r1 r2 : Int32) (I1 I2 : Nat → Nat → Int32) (J1 J2 : Nat → Nat → Int64) (R1 R2 : Nat → Nat → Nat), xEv L xs 19 62 0 [.ref 0, .int a1, .int a2] [] (124, I, J, R) (some (.int r1)) (124, I1, J1, R1) ∧ xEv L xs 19 181 0 [.ref 86, .int a1, .int a2] [] (124, I1, J1, R1) (some (.int r2)) (124, I2, J2, R2) ∧ aGood (124, I1, J1, R1) ∧ aGood (124, I2, J2, R2) ∧ lwA I2 J2 R2 := by
  obtain ⟨r1, r2, I1, I2, J1, J2, R1, R2, c1, c2, g1, g2, hT2⟩ := sp_judged (L := L) (xs := xs) hg hT.1 a1 a2
  obtain ⟨r1', I1', J1', R1', c1', g1', f1, cs1, m1, q1⟩ := api (ol_533 387 (by decide)) (by decide) (L := L) (xs := xs) (d := 19) (vs := [.ref 0, .int a1, .int a2]) (by decide) hg ⟨g0_r (by decide), g0_i (aw _).1 (aw _).2, g0_i (aw _).1 (aw _).2, rfl⟩ rfl
  obtain ⟨y1, z1⟩ := ev_det c1 c1'
  cases y1
  cases z1
  obtain ⟨r2', I2', J2', R2', c2', g2', f2, cs2, m2, q2⟩ := api (ol_533 388 (by decide)) (by decide) (L := L) (xs := xs) (d := 19) (vs := [.ref 86, .int a1, .int a2]) (by decide) g1 ⟨g0_r (by decide), g0_i (aw _).1 (aw _).2, g0_i (aw _).1 (aw _).2, rfl⟩ rfl
  obtain ⟨y2, z2⟩ := ev_det c2 c2'
  cases y2
  cases z2
  exact ⟨r1, r2, I1, I2, J1, J2, R1, R2, c1, c2, g1, g2, ⟨hT2, lwL_k f2 rfl (lwL_k f1 rfl hT.2.1), lwP_k f2 rfl (lwP_k f1 rfl hT.2.2)⟩⟩
theorem sr_soon {L : Nat} {xs : Nat → Int32} {I : Nat → Nat → Int32} {J : Nat → Nat → Int64} {R : Nat → Nat → Nat} (hg : aGood (124, I, J, R)) (hT : lwA I J R) (a1 a2 a3 a4 : Int32) : ∃ (r1 r2 : Int32) (I1 I2 : Nat → Nat → Int32) (J1 J2 : Nat → Nat → Int64) (R1 R2 : Nat → Nat → Nat), xEv L xs 19 63 0 [.ref 0, .int a1, .int a2, .int a3, .int a4] [] (124, I, J, R) (some (.int r1)) (124, I1, J1, R1) ∧ xEv L xs 19 182 0 [.ref 86, .int a1, .int a2, .int a3, .int a4, xmk] [] (124, I1, J1, R1) (some (.int r2)) (124, I2, J2, R2) ∧ aGood (124, I1, J1, R1) ∧ aGood (124, I2, J2, R2) ∧ lwA I2 J2 R2 := by
  obtain ⟨r1, r2, I1, I2, J1, J2, R1, R2, c1, c2, g1, g2, hT2⟩ := sp_soon (L := L) (xs := xs) hg hT.1 a1 a2 a3 a4
  obtain ⟨r1', I1', J1', R1', c1', g1', f1, cs1, m1, q1⟩ := api (ol_533 391 (by decide)) (by decide) (L := L) (xs := xs) (d := 19) (vs := [.ref 0, .int a1, .int a2, .int a3, .int a4]) (by decide) hg ⟨g0_r (by decide), g0_i (aw _).1 (aw _).2, g0_i (aw _).1 (aw _).2, g0_i (aw _).1 (aw _).2, g0_i (aw _).1 (aw _).2, rfl⟩ rfl
  obtain ⟨y1, z1⟩ := ev_det c1 c1'
  cases y1
  cases z1
  obtain ⟨r2', I2', J2', R2', c2', g2', f2, cs2, m2, q2⟩ := api (ol_533 395 (by decide)) (by decide) (L := L) (xs := xs) (d := 19) (vs := [.ref 86, .int a1, .int a2, .int a3, .int a4]) (by decide) g1 ⟨g0_r (by decide), g0_i (aw _).1 (aw _).2, g0_i (aw _).1 (aw _).2, g0_i (aw _).1 (aw _).2, g0_i (aw _).1 (aw _).2, rfl⟩ rfl
  obtain ⟨y2, z2⟩ := ev_det c2 c2'
  cases y2
  cases z2
  exact ⟨r1, r2, I1, I2, J1, J2, R1, R2, c1, c2, g1, g2, ⟨hT2, lwL_k f2 rfl (lwL_k f1 rfl hT.2.1), lwP_k f2 rfl (lwP_k f1 rfl hT.2.2)⟩⟩
theorem sr_surest {L : Nat} {xs : Nat → Int32} {I : Nat → Nat → Int32} {J : Nat → Nat → Int64} {R : Nat → Nat → Nat} (hg : aGood (124, I, J, R)) (hT : lwA I J R) (a1 a2 a3 a4 a5 a6 : Int32) : ∃ (r1 r2 : Int32) (I1 I2 : Nat → Nat → Int32) (J1 J2 : Nat → Nat → Int64) (R1 R2 : Nat → Nat → Nat), xEv L xs 19 68 0 [.ref 0, .int a1, .int a2, .int a3, .int a4, .int a5, .int a6, xmk] [] (124, I, J, R) (some (.int r1)) (124, I1, J1, R1) ∧ xEv L xs 19 188 0 [.ref 86, .int a1, .int a2, .int a3, .int a4, .int a5, .int a6] [] (124, I1, J1, R1) (some (.int r2)) (124, I2, J2, R2) ∧ aGood (124, I1, J1, R1) ∧ aGood (124, I2, J2, R2) ∧ lwA I2 J2 R2 := by
  obtain ⟨r1, r2, I1, I2, J1, J2, R1, R2, c1, c2, g1, g2, hT2⟩ := sp_surest (L := L) (xs := xs) hg hT.1 a1 a2 a3 a4 a5 a6
  obtain ⟨r1', I1', J1', R1', c1', g1', f1, cs1, m1, q1⟩ := api (ol_533 402 (by decide)) (by decide) (L := L) (xs := xs) (d := 19) (vs := [.ref 0, .int a1, .int a2, .int a3, .int a4, .int a5, .int a6]) (by decide) hg ⟨g0_r (by decide), g0_i (aw _).1 (aw _).2, g0_i (aw _).1 (aw _).2, g0_i (aw _).1 (aw _).2, g0_i (aw _).1 (aw _).2, g0_i (aw _).1 (aw _).2, g0_i (aw _).1 (aw _).2, rfl⟩ rfl
  obtain ⟨y1, z1⟩ := ev_det c1 c1'
  cases y1
  cases z1
  obtain ⟨r2', I2', J2', R2', c2', g2', f2, cs2, m2, q2⟩ := api (ol_533 407 (by decide)) (by decide) (L := L) (xs := xs) (d := 19) (vs := [.ref 86, .int a1, .int a2, .int a3, .int a4, .int a5, .int a6]) (by decide) g1 ⟨g0_r (by decide), g0_i (aw _).1 (aw _).2, g0_i (aw _).1 (aw _).2, g0_i (aw _).1 (aw _).2, g0_i (aw _).1 (aw _).2, g0_i (aw _).1 (aw _).2, g0_i (aw _).1 (aw _).2, rfl⟩ rfl
  obtain ⟨y2, z2⟩ := ev_det c2 c2'
  cases y2
  cases z2
  exact ⟨r1, r2, I1, I2, J1, J2, R1, R2, c1, c2, g1, g2, ⟨hT2, lwL_k f2 rfl (lwL_k f1 rfl hT.2.1), lwP_k f2 rfl (lwP_k f1 rfl hT.2.2)⟩⟩
theorem sr_bars {L : Nat} {xs : Nat → Int32} {I : Nat → Nat → Int32} {J : Nat → Nat → Int64} {R : Nat → Nat → Nat} (hg : aGood (124, I, J, R)) (hT : lwA I J R) (a1 a2 a3 a4 : Int32) : ∃ (r1 r2 : Int32) (I1 I2 : Nat → Nat → Int32) (J1 J2 : Nat → Nat → Int64) (R1 R2 : Nat → Nat → Nat), xEv L xs 19 82 0 [.ref 0, .int a1, .int a2, .int a3, .int a4, xmk, xmk, xmk] [] (124, I, J, R) (some (.int r1)) (124, I1, J1, R1) ∧ xEv L xs 19 187 0 [.ref 86, .int a1, .int a2, .int a3, .int a4, xmk, xmk] [] (124, I1, J1, R1) (some (.int r2)) (124, I2, J2, R2) ∧ aGood (124, I1, J1, R1) ∧ aGood (124, I2, J2, R2) ∧ lwA I2 J2 R2 := by
  obtain ⟨r1, r2, I1, I2, J1, J2, R1, R2, c1, c2, g1, g2, hT2⟩ := sp_bars (L := L) (xs := xs) hg hT.1 a1 a2 a3 a4
  obtain ⟨r1', I1', J1', R1', c1', g1', f1, cs1, m1, q1⟩ := api (ol_533 408 (by decide)) (by decide) (L := L) (xs := xs) (d := 19) (vs := [.ref 0, .int a1, .int a2, .int a3, .int a4]) (by decide) hg ⟨g0_r (by decide), g0_i (aw _).1 (aw _).2, g0_i (aw _).1 (aw _).2, g0_i (aw _).1 (aw _).2, g0_i (aw _).1 (aw _).2, rfl⟩ rfl
  obtain ⟨y1, z1⟩ := ev_det c1 c1'
  cases y1
  cases z1
  obtain ⟨r2', I2', J2', R2', c2', g2', f2, cs2, m2, q2⟩ := api (ol_533 409 (by decide)) (by decide) (L := L) (xs := xs) (d := 19) (vs := [.ref 86, .int a1, .int a2, .int a3, .int a4]) (by decide) g1 ⟨g0_r (by decide), g0_i (aw _).1 (aw _).2, g0_i (aw _).1 (aw _).2, g0_i (aw _).1 (aw _).2, g0_i (aw _).1 (aw _).2, rfl⟩ rfl
  obtain ⟨y2, z2⟩ := ev_det c2 c2'
  cases y2
  cases z2
  exact ⟨r1, r2, I1, I2, J1, J2, R1, R2, c1, c2, g1, g2, ⟨hT2, lwL_k f2 rfl (lwL_k f1 rfl hT.2.1), lwP_k f2 rfl (lwP_k f1 rfl hT.2.2)⟩⟩
theorem sr_all {L : Nat} {xs : Nat → Int32} {I : Nat → Nat → Int32} {J : Nat → Nat → Int64} {R : Nat → Nat → Nat} (hg : aGood (124, I, J, R)) (hT : lwA I J R) (a1 : Int32) : ∃ (r1 r2 : Int32) (I1 I2 : Nat → Nat → Int32) (J1 J2 : Nat → Nat → Int64) (R1 R2 : Nat → Nat → Nat), xEv L xs 19 83 0 [.ref 0, .int a1] [] (124, I, J, R) (some (.int r1)) (124, I1, J1, R1) ∧ xEv L xs 19 198 0 [.ref 86, .int a1] [] (124, I1, J1, R1) (some (.int r2)) (124, I2, J2, R2) ∧ aGood (124, I1, J1, R1) ∧ aGood (124, I2, J2, R2) ∧ lwA I2 J2 R2 ∧ r2 = r1 := by
  obtain ⟨r1, r2, I1, I2, J1, J2, R1, R2, c1, c2, g1, g2, hT2⟩ := sp_all (L := L) (xs := xs) hg hT.1 a1
  obtain ⟨r1', I1', J1', R1', c1', g1', f1, cs1, m1, q1⟩ := api (ol_533 432 (by decide)) (by decide) (L := L) (xs := xs) (d := 19) (vs := [.ref 0, .int a1]) (by decide) hg ⟨g0_r (by decide), g0_i (aw _).1 (aw _).2, rfl⟩ rfl
  obtain ⟨y1, z1⟩ := ev_det c1 c1'
  cases y1
  cases z1
  obtain ⟨r2', I2', J2', R2', c2', g2', f2, cs2, m2, q2⟩ := api (ol_533 457 (by decide)) (by decide) (L := L) (xs := xs) (d := 19) (vs := [.ref 86, .int a1]) (by decide) g1 ⟨g0_r (by decide), g0_i (aw _).1 (aw _).2, rfl⟩ rfl
  obtain ⟨y2, z2⟩ := ev_det c2 c2'
  cases y2
  cases z2
  have b90 : ∀ q, q < 7 → (I1 90 q).toInt ≤ 3 := by
    intro q hq
    have z : aIn2 (aRng 90 q) (I1 90 q) := g1.2.1 90 q (show q < 14 by omega)
    rw [show aRng 90 q = (0, 3) from rfl] at z
    exact z.2
  have b99 : ∀ q, q < 4 → 0 ≤ (I1 99 q).toInt ∧ (I1 99 q).toInt ≤ 99 := by
    intro q hq
    have z : aIn2 (aRng 99 q) (I1 99 q) := g1.2.1 99 q (show q < 8 by omega)
    rw [show aRng 99 q = (0, 99) from rfl] at z
    exact ⟨z.1, z.2⟩
  have b99I : ∀ q, q < 4 → 0 ≤ (I 99 q).toInt ∧ (I 99 q).toInt ≤ 99 := by
    intro q hq
    have z : aIn2 (aRng 99 q) (I 99 q) := hg.2.1 99 q (show q < 8 by omega)
    rw [show aRng 99 q = (0, 99) from rfl] at z
    exact ⟨z.1, z.2⟩
  have e94 : ∀ k, I1 94 k = I 94 k := fun k => kp_i f1 (c := 94) (k := k) (p := 277) rfl (by decide)
  have hL := hT.2.1
  have hP := hT.2.2
  obtain ⟨⟨hT1, ⟨np, nm, nn, l, hV⟩, hK, hF⟩, -, -⟩ := hT
  have key : r2 = r1 ∧ lwP I1 R1 := by
    rcases hV with ⟨h8, h9, hV⟩ | ⟨h8, h9, hV⟩
    · have hV1 := VR_e_3 hV ⟨⟨rfl, rfl, rfl, rfl, rfl⟩, fun _ _ _ => rfl⟩ (RE_of f1 rfl)
      have hh := hrS_e (lwL_v3 hV hL) e94
      have hP' : I 57 8 = 0 ∨ (I 57 8 = 1 ∧ yPW_3 I) := by
        rcases hP with h | ⟨h, h3, h23⟩
        · exact Or.inl h
        · exact Or.inr ⟨h, h3 h8⟩
      rcases alE_3 (L := L) (xs := xs) (d := 13) (d' := 10) (Jr := J1) (gd_of hg) (gd_of g1) h8 hV1 hV hh b90 b99 b99I hP' a1 with ⟨-, r, I', Ir', x1, x2, k1, k2, k3⟩ | ⟨-, r, x1, x2⟩
      · obtain ⟨y1, y2⟩ := ev_det c1 x1
        obtain ⟨y3, -⟩ := ev_det c2 x2
        refine ⟨(inj_rv y3).trans (inj_rv y1).symm, ?_⟩
        rw [inj_hI y2, inj_hR y2]
        exact Or.inr ⟨k1, fun r => k2, fun r => by omega⟩
      · obtain ⟨y1, y2⟩ := ev_det c1 x1
        have er := inj_rv y1
        cases y2
        obtain ⟨y3, -⟩ := ev_det c2 x2
        exact ⟨(inj_rv y3).trans er.symm, hP⟩
    · have hV1 := VR_e_23 hV ⟨⟨rfl, rfl, rfl, rfl, rfl⟩, fun _ _ _ => rfl⟩ (RE_of f1 rfl)
      have hh := hrS_e (lwL_v23 hV hL) e94
      have hP' : I 57 8 = 0 ∨ (I 57 8 = 1 ∧ yPW_23 I) := by
        rcases hP with h | ⟨h, h3, h23⟩
        · exact Or.inl h
        · exact Or.inr ⟨h, h23 h8⟩
      rcases alE_23 (L := L) (xs := xs) (d := 13) (d' := 10) (Jr := J1) (gd_of hg) (gd_of g1) h8 hV1 hV hh b90 b99 b99I hP' a1 with ⟨-, r, I', Ir', x1, x2, k1, k2, k3⟩ | ⟨-, r, x1, x2⟩
      · obtain ⟨y1, y2⟩ := ev_det c1 x1
        obtain ⟨y3, -⟩ := ev_det c2 x2
        refine ⟨(inj_rv y3).trans (inj_rv y1).symm, ?_⟩
        rw [inj_hI y2, inj_hR y2]
        exact Or.inr ⟨k1, fun r => by omega, fun r => k2⟩
      · obtain ⟨y1, y2⟩ := ev_det c1 x1
        have er := inj_rv y1
        cases y2
        obtain ⟨y3, -⟩ := ev_det c2 x2
        exact ⟨(inj_rv y3).trans er.symm, hP⟩
  exact ⟨r1, r2, I1, I2, J1, J2, R1, R2, c1, c2, g1, g2, ⟨hT2, lwL_k f2 rfl (lwL_k f1 rfl hL), lwP_k f2 rfl key.2⟩, key.1⟩
theorem sr_together {L : Nat} {xs : Nat → Int32} {I : Nat → Nat → Int32} {J : Nat → Nat → Int64} {R : Nat → Nat → Nat} (hg : aGood (124, I, J, R)) (hT : lwA I J R) (a1 a2 : Int32) : ∃ (r1 r2 : Int32) (I1 I2 : Nat → Nat → Int32) (J1 J2 : Nat → Nat → Int64) (R1 R2 : Nat → Nat → Nat), xEv L xs 19 93 0 [.ref 0, .int a1, .int a2, xmk] [] (124, I, J, R) (some (.int r1)) (124, I1, J1, R1) ∧ xEv L xs 19 208 0 [.ref 86, .int a1, .int a2, xmk, xmk, xmk, xmk, xmk] [] (124, I1, J1, R1) (some (.int r2)) (124, I2, J2, R2) ∧ aGood (124, I1, J1, R1) ∧ aGood (124, I2, J2, R2) ∧ lwA I2 J2 R2 ∧ r2 = r1 := by
  obtain ⟨r1, r2, I1, I2, J1, J2, R1, R2, c1, c2, g1, g2, hT2⟩ := sp_together (L := L) (xs := xs) hg hT.1 a1 a2
  obtain ⟨r1', I1', J1', R1', c1', g1', f1, cs1, m1, q1⟩ := api (ol_533 459 (by decide)) (by decide) (L := L) (xs := xs) (d := 19) (vs := [.ref 0, .int a1, .int a2]) (by decide) hg ⟨g0_r (by decide), g0_i (aw _).1 (aw _).2, g0_i (aw _).1 (aw _).2, rfl⟩ rfl
  obtain ⟨y1, z1⟩ := ev_det c1 c1'
  cases y1
  cases z1
  obtain ⟨r2', I2', J2', R2', c2', g2', f2, cs2, m2, q2⟩ := api (ol_533 461 (by decide)) (by decide) (L := L) (xs := xs) (d := 19) (vs := [.ref 86, .int a1, .int a2]) (by decide) g1 ⟨g0_r (by decide), g0_i (aw _).1 (aw _).2, g0_i (aw _).1 (aw _).2, rfl⟩ rfl
  obtain ⟨y2, z2⟩ := ev_det c2 c2'
  cases y2
  cases z2
  have b90 : ∀ q, q < 7 → (I1 90 q).toInt ≤ 3 := by
    intro q hq
    have z : aIn2 (aRng 90 q) (I1 90 q) := g1.2.1 90 q (show q < 14 by omega)
    rw [show aRng 90 q = (0, 3) from rfl] at z
    exact z.2
  have b99 : ∀ q, q < 4 → 0 ≤ (I1 99 q).toInt ∧ (I1 99 q).toInt ≤ 99 := by
    intro q hq
    have z : aIn2 (aRng 99 q) (I1 99 q) := g1.2.1 99 q (show q < 8 by omega)
    rw [show aRng 99 q = (0, 99) from rfl] at z
    exact ⟨z.1, z.2⟩
  have e94 : ∀ k, I1 94 k = I 94 k := fun k => kp_i f1 (c := 94) (k := k) (p := 277) rfl (by decide)
  have hL := hT.2.1
  have hP := hT.2.2
  obtain ⟨⟨hT1, ⟨np, nm, nn, l, hV⟩, hK, hF⟩, -, -⟩ := hT
  have key : r2 = r1 ∧ lwP I1 R1 := by
    rcases hV with ⟨h8, h9, hV⟩ | ⟨h8, h9, hV⟩
    · have hV1 := VR_e_3 hV ⟨⟨rfl, rfl, rfl, rfl, rfl⟩, fun _ _ _ => rfl⟩ (RE_of f1 rfl)
      have hh := hrS_e (lwL_v3 hV hL) e94
      have hP' : I 57 8 = 0 ∨ (I 57 8 = 1 ∧ yPW_3 I) := by
        rcases hP with h | ⟨h, h3, h23⟩
        · exact Or.inl h
        · exact Or.inr ⟨h, h3 h8⟩
      obtain ⟨r, I', Ir', x1, x2, x3⟩ := toE_3 (L := L) (xs := xs) (d := 13) (d' := 11) (Jr := J1) (gd_of hg) (gd_of g1) h8 hV1 hh b90 b99 hP' a1 a2
      obtain ⟨y1, y2⟩ := ev_det c1 x1
      obtain ⟨y3, -⟩ := ev_det c2 x2
      refine ⟨(inj_rv y3).trans (inj_rv y1).symm, ?_⟩
      rw [inj_hI y2, inj_hR y2]
      rcases x3 with e | ⟨k1, k2, k3⟩
      · rw [e]
        exact hP
      · exact Or.inr ⟨k1, fun r => k2, fun r => by omega⟩
    · have hV1 := VR_e_23 hV ⟨⟨rfl, rfl, rfl, rfl, rfl⟩, fun _ _ _ => rfl⟩ (RE_of f1 rfl)
      have hh := hrS_e (lwL_v23 hV hL) e94
      have hP' : I 57 8 = 0 ∨ (I 57 8 = 1 ∧ yPW_23 I) := by
        rcases hP with h | ⟨h, h3, h23⟩
        · exact Or.inl h
        · exact Or.inr ⟨h, h23 h8⟩
      obtain ⟨r, I', Ir', x1, x2, x3⟩ := toE_23 (L := L) (xs := xs) (d := 13) (d' := 11) (Jr := J1) (gd_of hg) (gd_of g1) h8 hV1 hh b90 b99 hP' a1 a2
      obtain ⟨y1, y2⟩ := ev_det c1 x1
      obtain ⟨y3, -⟩ := ev_det c2 x2
      refine ⟨(inj_rv y3).trans (inj_rv y1).symm, ?_⟩
      rw [inj_hI y2, inj_hR y2]
      rcases x3 with e | ⟨k1, k2, k3⟩
      · rw [e]
        exact hP
      · exact Or.inr ⟨k1, fun r => by omega, fun r => k2⟩
  exact ⟨r1, r2, I1, I2, J1, J2, R1, R2, c1, c2, g1, g2, ⟨hT2, lwL_k f2 rfl (lwL_k f1 rfl hL), lwP_k f2 rfl key.2⟩, key.1⟩
theorem sr_reply {L : Nat} {xs : Nat → Int32} {I : Nat → Nat → Int32} {J : Nat → Nat → Int64} {R : Nat → Nat → Nat} (hg : aGood (124, I, J, R)) (hT : lwA I J R) (a1 : Int32) : ∃ (r1 r2 : Int32) (I1 I2 : Nat → Nat → Int32) (J1 J2 : Nat → Nat → Int64) (R1 R2 : Nat → Nat → Nat), xEv L xs 19 95 0 [.ref 0, .int a1, xmk] [] (124, I, J, R) (some (.int r1)) (124, I1, J1, R1) ∧ xEv L xs 19 210 0 [.ref 86, .int a1, xmk, xmk, xmk] [] (124, I1, J1, R1) (some (.int r2)) (124, I2, J2, R2) ∧ aGood (124, I1, J1, R1) ∧ aGood (124, I2, J2, R2) ∧ lwA I2 J2 R2 := by
  obtain ⟨r1, r2, I1, I2, J1, J2, R1, R2, c1, c2, g1, g2, hT2⟩ := sp_reply (L := L) (xs := xs) hg hT.1 a1
  obtain ⟨r1', I1', J1', R1', c1', g1', f1, cs1, m1, q1⟩ := api (ol_533 466 (by decide)) (by decide) (L := L) (xs := xs) (d := 19) (vs := [.ref 0, .int a1]) (by decide) hg ⟨g0_r (by decide), g0_i (aw _).1 (aw _).2, rfl⟩ rfl
  obtain ⟨y1, z1⟩ := ev_det c1 c1'
  cases y1
  cases z1
  obtain ⟨r2', I2', J2', R2', c2', g2', f2, cs2, m2, q2⟩ := api (ol_533 468 (by decide)) (by decide) (L := L) (xs := xs) (d := 19) (vs := [.ref 86, .int a1]) (by decide) g1 ⟨g0_r (by decide), g0_i (aw _).1 (aw _).2, rfl⟩ rfl
  obtain ⟨y2, z2⟩ := ev_det c2 c2'
  cases y2
  cases z2
  exact ⟨r1, r2, I1, I2, J1, J2, R1, R2, c1, c2, g1, g2, ⟨hT2, lwL_k f2 rfl (lwL_k f1 rfl hT.2.1), lwP_k f2 rfl (lwP_k f1 rfl hT.2.2)⟩⟩
theorem sr_ring {L : Nat} {xs : Nat → Int32} {I : Nat → Nat → Int32} {J : Nat → Nat → Int64} {R : Nat → Nat → Nat} (hg : aGood (124, I, J, R)) (hT : lwA I J R) (a1 : Int32) : ∃ (r1 r2 : Int32) (I1 I2 : Nat → Nat → Int32) (J1 J2 : Nat → Nat → Int64) (R1 R2 : Nat → Nat → Nat), xEv L xs 19 100 0 [.ref 0, .int a1, xmk] [] (124, I, J, R) (some (.int r1)) (124, I1, J1, R1) ∧ xEv L xs 19 212 0 [.ref 86, .int a1, xmk, xmk] [] (124, I1, J1, R1) (some (.int r2)) (124, I2, J2, R2) ∧ aGood (124, I1, J1, R1) ∧ aGood (124, I2, J2, R2) ∧ lwA I2 J2 R2 := by
  obtain ⟨r1, r2, I1, I2, J1, J2, R1, R2, c1, c2, g1, g2, hT2⟩ := sp_ring (L := L) (xs := xs) hg hT.1 a1
  obtain ⟨r1', I1', J1', R1', c1', g1', f1, cs1, m1, q1⟩ := api (ol_533 478 (by decide)) (by decide) (L := L) (xs := xs) (d := 19) (vs := [.ref 0, .int a1]) (by decide) hg ⟨g0_r (by decide), g0_i (aw _).1 (aw _).2, rfl⟩ rfl
  obtain ⟨y1, z1⟩ := ev_det c1 c1'
  cases y1
  cases z1
  obtain ⟨r2', I2', J2', R2', c2', g2', f2, cs2, m2, q2⟩ := api (ol_533 479 (by decide)) (by decide) (L := L) (xs := xs) (d := 19) (vs := [.ref 86, .int a1]) (by decide) g1 ⟨g0_r (by decide), g0_i (aw _).1 (aw _).2, rfl⟩ rfl
  obtain ⟨y2, z2⟩ := ev_det c2 c2'
  cases y2
  cases z2
  exact ⟨r1, r2, I1, I2, J1, J2, R1, R2, c1, c2, g1, g2, ⟨hT2, lwL_k f2 rfl (lwL_k f1 rfl hT.2.1), lwP_k f2 rfl (lwP_k f1 rfl hT.2.2)⟩⟩
theorem sr_bestRing {L : Nat} {xs : Nat → Int32} {I : Nat → Nat → Int32} {J : Nat → Nat → Int64} {R : Nat → Nat → Nat} (hg : aGood (124, I, J, R)) (hT : lwA I J R) (a1 : Int32) : ∃ (r1 r2 : Int32) (I1 I2 : Nat → Nat → Int32) (J1 J2 : Nat → Nat → Int64) (R1 R2 : Nat → Nat → Nat), xEv L xs 19 109 0 [.ref 0, .int a1, xmk, xmk] [] (124, I, J, R) (some (.int r1)) (124, I1, J1, R1) ∧ xEv L xs 19 214 0 [.ref 86, .int a1, xmk, xmk, xmk, xmk] [] (124, I1, J1, R1) (some (.int r2)) (124, I2, J2, R2) ∧ aGood (124, I1, J1, R1) ∧ aGood (124, I2, J2, R2) ∧ lwA I2 J2 R2 := by
  obtain ⟨r1, r2, I1, I2, J1, J2, R1, R2, c1, c2, g1, g2, hT2⟩ := sp_bestRing (L := L) (xs := xs) hg hT.1 a1
  obtain ⟨r1', I1', J1', R1', c1', g1', f1, cs1, m1, q1⟩ := api (ol_533 482 (by decide)) (by decide) (L := L) (xs := xs) (d := 19) (vs := [.ref 0, .int a1]) (by decide) hg ⟨g0_r (by decide), g0_i (aw _).1 (aw _).2, rfl⟩ rfl
  obtain ⟨y1, z1⟩ := ev_det c1 c1'
  cases y1
  cases z1
  obtain ⟨r2', I2', J2', R2', c2', g2', f2, cs2, m2, q2⟩ := api (ol_533 484 (by decide)) (by decide) (L := L) (xs := xs) (d := 19) (vs := [.ref 86, .int a1]) (by decide) g1 ⟨g0_r (by decide), g0_i (aw _).1 (aw _).2, rfl⟩ rfl
  obtain ⟨y2, z2⟩ := ev_det c2 c2'
  cases y2
  cases z2
  exact ⟨r1, r2, I1, I2, J1, J2, R1, R2, c1, c2, g1, g2, ⟨hT2, lwL_k f2 rfl (lwL_k f1 rfl hT.2.1), lwP_k f2 rfl (lwP_k f1 rfl hT.2.2)⟩⟩
theorem sr_where {L : Nat} {xs : Nat → Int32} {I : Nat → Nat → Int32} {J : Nat → Nat → Int64} {R : Nat → Nat → Nat} (hg : aGood (124, I, J, R)) (hT : lwA I J R) (a1 a2 a3 a4 a5 a6 : Int32) : ∃ (r1 r2 : Int32) (I1 I2 : Nat → Nat → Int32) (J1 J2 : Nat → Nat → Int64) (R1 R2 : Nat → Nat → Nat), xEv L xs 19 111 0 [.ref 0, .int a1, .int a2, .int a3, .int a4, .int a5, .int a6] [] (124, I, J, R) (some (.int r1)) (124, I1, J1, R1) ∧ xEv L xs 19 215 0 [.ref 86, .int a1, .int a2, .int a3, .int a4, .int a5, .int a6] [] (124, I1, J1, R1) (some (.int r2)) (124, I2, J2, R2) ∧ aGood (124, I1, J1, R1) ∧ aGood (124, I2, J2, R2) ∧ lwA I2 J2 R2 := by
  obtain ⟨r1, r2, I1, I2, J1, J2, R1, R2, c1, c2, g1, g2, hT2⟩ := sp_where (L := L) (xs := xs) hg hT.1 a1 a2 a3 a4 a5 a6
  obtain ⟨r1', I1', J1', R1', c1', g1', f1, cs1, m1, q1⟩ := api (ol_533 488 (by decide)) (by decide) (L := L) (xs := xs) (d := 19) (vs := [.ref 0, .int a1, .int a2, .int a3, .int a4, .int a5, .int a6]) (by decide) hg ⟨g0_r (by decide), g0_i (aw _).1 (aw _).2, g0_i (aw _).1 (aw _).2, g0_i (aw _).1 (aw _).2, g0_i (aw _).1 (aw _).2, g0_i (aw _).1 (aw _).2, g0_i (aw _).1 (aw _).2, rfl⟩ rfl
  obtain ⟨y1, z1⟩ := ev_det c1 c1'
  cases y1
  cases z1
  obtain ⟨r2', I2', J2', R2', c2', g2', f2, cs2, m2, q2⟩ := api (ol_533 493 (by decide)) (by decide) (L := L) (xs := xs) (d := 19) (vs := [.ref 86, .int a1, .int a2, .int a3, .int a4, .int a5, .int a6]) (by decide) g1 ⟨g0_r (by decide), g0_i (aw _).1 (aw _).2, g0_i (aw _).1 (aw _).2, g0_i (aw _).1 (aw _).2, g0_i (aw _).1 (aw _).2, g0_i (aw _).1 (aw _).2, g0_i (aw _).1 (aw _).2, rfl⟩ rfl
  obtain ⟨y2, z2⟩ := ev_det c2 c2'
  cases y2
  cases z2
  exact ⟨r1, r2, I1, I2, J1, J2, R1, R2, c1, c2, g1, g2, ⟨hT2, lwL_k f2 rfl (lwL_k f1 rfl hT.2.1), lwP_k f2 rfl (lwP_k f1 rfl hT.2.2)⟩⟩
theorem sr_ask {L : Nat} {xs : Nat → Int32} {I : Nat → Nat → Int32} {J : Nat → Nat → Int64} {R : Nat → Nat → Nat} (hg : aGood (124, I, J, R)) (hT : lwA I J R) (a1 a2 a3 a4 a5 : Int32) : ∃ (r1 r2 : Int32) (I1 I2 : Nat → Nat → Int32) (J1 J2 : Nat → Nat → Int64) (R1 R2 : Nat → Nat → Nat), xEv L xs 19 114 0 [.ref 0, .int a1, .int a2, .int a3, .int a4, .int a5, xmk, xmk] [] (124, I, J, R) (some (.int r1)) (124, I1, J1, R1) ∧ xEv L xs 19 218 0 [.ref 86, .int a1, .int a2, .int a3, .int a4, .int a5, xmk, xmk] [] (124, I1, J1, R1) (some (.int r2)) (124, I2, J2, R2) ∧ aGood (124, I1, J1, R1) ∧ aGood (124, I2, J2, R2) ∧ lwA I2 J2 R2 := by
  obtain ⟨r1, r2, I1, I2, J1, J2, R1, R2, c1, c2, g1, g2, hT2⟩ := sp_ask (L := L) (xs := xs) hg hT.1 a1 a2 a3 a4 a5
  obtain ⟨r1', I1', J1', R1', c1', g1', f1, cs1, m1, q1⟩ := api (ol_533 494 (by decide)) (by decide) (L := L) (xs := xs) (d := 19) (vs := [.ref 0, .int a1, .int a2, .int a3, .int a4, .int a5]) (by decide) hg ⟨g0_r (by decide), g0_i (aw _).1 (aw _).2, g0_i (aw _).1 (aw _).2, g0_i (aw _).1 (aw _).2, g0_i (aw _).1 (aw _).2, g0_i (aw _).1 (aw _).2, rfl⟩ rfl
  obtain ⟨y1, z1⟩ := ev_det c1 c1'
  cases y1
  cases z1
  obtain ⟨r2', I2', J2', R2', c2', g2', f2, cs2, m2, q2⟩ := api (ol_533 495 (by decide)) (by decide) (L := L) (xs := xs) (d := 19) (vs := [.ref 86, .int a1, .int a2, .int a3, .int a4, .int a5]) (by decide) g1 ⟨g0_r (by decide), g0_i (aw _).1 (aw _).2, g0_i (aw _).1 (aw _).2, g0_i (aw _).1 (aw _).2, g0_i (aw _).1 (aw _).2, g0_i (aw _).1 (aw _).2, rfl⟩ rfl
  obtain ⟨y2, z2⟩ := ev_det c2 c2'
  cases y2
  cases z2
  exact ⟨r1, r2, I1, I2, J1, J2, R1, R2, c1, c2, g1, g2, ⟨hT2, lwL_k f2 rfl (lwL_k f1 rfl hT.2.1), lwP_k f2 rfl (lwP_k f1 rfl hT.2.2)⟩⟩
theorem sr_fight {L : Nat} {xs : Nat → Int32} {I : Nat → Nat → Int32} {J : Nat → Nat → Int64} {R : Nat → Nat → Nat} (hg : aGood (124, I, J, R)) (hT : lwA I J R) (a1 : Int32) : ∃ (r1 r2 : Int32) (I1 I2 : Nat → Nat → Int32) (J1 J2 : Nat → Nat → Int64) (R1 R2 : Nat → Nat → Nat), xEv L xs 19 115 0 [.ref 0, .int a1, xmk] [] (124, I, J, R) (some (.int r1)) (124, I1, J1, R1) ∧ xEv L xs 19 219 0 [.ref 86, .int a1, xmk, xmk, xmk, xmk, xmk, xmk, xmk] [] (124, I1, J1, R1) (some (.int r2)) (124, I2, J2, R2) ∧ aGood (124, I1, J1, R1) ∧ aGood (124, I2, J2, R2) ∧ lwA I2 J2 R2 := by
  obtain ⟨r1, r2, I1, I2, J1, J2, R1, R2, c1, c2, g1, g2, hT2⟩ := sp_fight (L := L) (xs := xs) hg hT.1 a1
  obtain ⟨r1', I1', J1', R1', c1', g1', f1, cs1, m1, q1⟩ := api (ol_533 498 (by decide)) (by decide) (L := L) (xs := xs) (d := 19) (vs := [.ref 0, .int a1]) (by decide) hg ⟨g0_r (by decide), g0_i (aw _).1 (aw _).2, rfl⟩ rfl
  obtain ⟨y1, z1⟩ := ev_det c1 c1'
  cases y1
  cases z1
  obtain ⟨r2', I2', J2', R2', c2', g2', f2, cs2, m2, q2⟩ := api (ol_533 499 (by decide)) (by decide) (L := L) (xs := xs) (d := 19) (vs := [.ref 86, .int a1]) (by decide) g1 ⟨g0_r (by decide), g0_i (aw _).1 (aw _).2, rfl⟩ rfl
  obtain ⟨y2, z2⟩ := ev_det c2 c2'
  cases y2
  cases z2
  exact ⟨r1, r2, I1, I2, J1, J2, R1, R2, c1, c2, g1, g2, ⟨hT2, lwL_k f2 rfl (lwL_k f1 rfl hT.2.1), lwP_k f2 rfl (lwP_k f1 rfl hT.2.2)⟩⟩
theorem sr_believe {L : Nat} {xs : Nat → Int32} {I : Nat → Nat → Int32} {J : Nat → Nat → Int64} {R : Nat → Nat → Nat} (hg : aGood (124, I, J, R)) (hT : lwA I J R) (a1 : Int32) : ∃ (r1 r2 : Int32) (I1 I2 : Nat → Nat → Int32) (J1 J2 : Nat → Nat → Int64) (R1 R2 : Nat → Nat → Nat), xEv L xs 19 118 0 [.ref 0, .int a1] [] (124, I, J, R) (some (.int r1)) (124, I1, J1, R1) ∧ xEv L xs 19 220 0 [.ref 86, .int a1] [] (124, I1, J1, R1) (some (.int r2)) (124, I2, J2, R2) ∧ aGood (124, I1, J1, R1) ∧ aGood (124, I2, J2, R2) ∧ lwA I2 J2 R2 := by
  obtain ⟨r1, r2, I1, I2, J1, J2, R1, R2, c1, c2, g1, g2, hT2⟩ := sp_believe (L := L) (xs := xs) hg hT.1 a1
  obtain ⟨r1', I1', J1', R1', c1', g1', f1, cs1, m1, q1⟩ := api (ol_533 500 (by decide)) (by decide) (L := L) (xs := xs) (d := 19) (vs := [.ref 0, .int a1]) (by decide) hg ⟨g0_r (by decide), g0_i (aw _).1 (aw _).2, rfl⟩ rfl
  obtain ⟨y1, z1⟩ := ev_det c1 c1'
  cases y1
  cases z1
  obtain ⟨r2', I2', J2', R2', c2', g2', f2, cs2, m2, q2⟩ := api (ol_533 501 (by decide)) (by decide) (L := L) (xs := xs) (d := 19) (vs := [.ref 86, .int a1]) (by decide) g1 ⟨g0_r (by decide), g0_i (aw _).1 (aw _).2, rfl⟩ rfl
  obtain ⟨y2, z2⟩ := ev_det c2 c2'
  cases y2
  cases z2
  exact ⟨r1, r2, I1, I2, J1, J2, R1, R2, c1, c2, g1, g2, ⟨hT2, lwL_k f2 rfl (lwL_k f1 rfl hT.2.1), lwP_k f2 rfl (lwP_k f1 rfl hT.2.2)⟩⟩
theorem sr_rule {L : Nat} {xs : Nat → Int32} {I : Nat → Nat → Int32} {J : Nat → Nat → Int64} {R : Nat → Nat → Nat} (hg : aGood (124, I, J, R)) (hT : lwA I J R) (a1 a2 a3 : Int32) : ∃ (r1 r2 : Int32) (I1 I2 : Nat → Nat → Int32) (J1 J2 : Nat → Nat → Int64) (R1 R2 : Nat → Nat → Nat), xEv L xs 19 119 0 [.ref 0, .int a1, .int a2, .int a3, xmk] [] (124, I, J, R) (some (.int r1)) (124, I1, J1, R1) ∧ xEv L xs 19 221 0 [.ref 86, .int a1, .int a2, .int a3, xmk] [] (124, I1, J1, R1) (some (.int r2)) (124, I2, J2, R2) ∧ aGood (124, I1, J1, R1) ∧ aGood (124, I2, J2, R2) ∧ lwA I2 J2 R2 ∧ r2 = r1 := by
  obtain ⟨r1, r2, I1, I2, J1, J2, R1, R2, c1, c2, g1, g2, hT2, e⟩ := sp_rule (L := L) (xs := xs) hg hT.1 a1 a2 a3
  obtain ⟨r1', I1', J1', R1', c1', g1', f1, cs1, m1, q1⟩ := api (ol_533 504 (by decide)) (by decide) (L := L) (xs := xs) (d := 19) (vs := [.ref 0, .int a1, .int a2, .int a3]) (by decide) hg ⟨g0_r (by decide), g0_i (aw _).1 (aw _).2, g0_i (aw _).1 (aw _).2, g0_i (aw _).1 (aw _).2, rfl⟩ rfl
  obtain ⟨y1, z1⟩ := ev_det c1 c1'
  cases y1
  cases z1
  obtain ⟨r2', I2', J2', R2', c2', g2', f2, cs2, m2, q2⟩ := api (ol_533 506 (by decide)) (by decide) (L := L) (xs := xs) (d := 19) (vs := [.ref 86, .int a1, .int a2, .int a3]) (by decide) g1 ⟨g0_r (by decide), g0_i (aw _).1 (aw _).2, g0_i (aw _).1 (aw _).2, g0_i (aw _).1 (aw _).2, rfl⟩ rfl
  obtain ⟨y2, z2⟩ := ev_det c2 c2'
  cases y2
  cases z2
  exact ⟨r1, r2, I1, I2, J1, J2, R1, R2, c1, c2, g1, g2, ⟨hT2, lwL_k f2 rfl (lwL_k f1 rfl hT.2.1), lwP_k f2 rfl (lwP_k f1 rfl hT.2.2)⟩, e⟩
theorem sr_begin {L : Nat} {xs : Nat → Int32} {I : Nat → Nat → Int32} {J : Nat → Nat → Int64} {R : Nat → Nat → Nat} (hg : aGood (124, I, J, R)) (hT : lwA I J R) (a1 : Int32) : ∃ (r1 r2 : Int32) (I1 I2 : Nat → Nat → Int32) (J1 J2 : Nat → Nat → Int64) (R1 R2 : Nat → Nat → Nat), xEv L xs 19 120 0 [.ref 0, .int a1] [] (124, I, J, R) (some (.int r1)) (124, I1, J1, R1) ∧ xEv L xs 19 222 0 [.ref 86, .int a1, xmk] [] (124, I1, J1, R1) (some (.int r2)) (124, I2, J2, R2) ∧ aGood (124, I1, J1, R1) ∧ aGood (124, I2, J2, R2) ∧ lwA I2 J2 R2 := by
  obtain ⟨r1, r2, I1, I2, J1, J2, R1, R2, c1, c2, g1, g2, hT2⟩ := sp_begin (L := L) (xs := xs) hg hT.1 a1
  obtain ⟨r1', I1', J1', R1', c1', g1', f1, cs1, m1, q1⟩ := api (ol_533 508 (by decide)) (by decide) (L := L) (xs := xs) (d := 19) (vs := [.ref 0, .int a1]) (by decide) hg ⟨g0_r (by decide), g0_i (aw _).1 (aw _).2, rfl⟩ rfl
  obtain ⟨y1, z1⟩ := ev_det c1 c1'
  cases y1
  cases z1
  obtain ⟨r2', I2', J2', R2', c2', g2', f2, cs2, m2, q2⟩ := api (ol_533 509 (by decide)) (by decide) (L := L) (xs := xs) (d := 19) (vs := [.ref 86, .int a1]) (by decide) g1 ⟨g0_r (by decide), g0_i (aw _).1 (aw _).2, rfl⟩ rfl
  obtain ⟨y2, z2⟩ := ev_det c2 c2'
  cases y2
  cases z2
  exact ⟨r1, r2, I1, I2, J1, J2, R1, R2, c1, c2, g1, g2, ⟨hT2, lwL_k f2 rfl (lwL_k f1 rfl hT.2.1), lwP_k f2 rfl (lwP_k f1 rfl hT.2.2)⟩⟩
theorem sr_go {L : Nat} {xs : Nat → Int32} {I : Nat → Nat → Int32} {J : Nat → Nat → Int64} {R : Nat → Nat → Nat} (hg : aGood (124, I, J, R)) (hT : lwA I J R) (a1 : Int32) : ∃ (r1 r2 : Int32) (I1 I2 : Nat → Nat → Int32) (J1 J2 : Nat → Nat → Int64) (R1 R2 : Nat → Nat → Nat), xEv L xs 19 122 0 [.ref 0, .int a1, xmk] [] (124, I, J, R) (some (.int r1)) (124, I1, J1, R1) ∧ xEv L xs 19 223 0 [.ref 86, .int a1, xmk] [] (124, I1, J1, R1) (some (.int r2)) (124, I2, J2, R2) ∧ aGood (124, I1, J1, R1) ∧ aGood (124, I2, J2, R2) ∧ lwA I2 J2 R2 := by
  obtain ⟨r1, r2, I1, I2, J1, J2, R1, R2, c1, c2, g1, g2, hT2⟩ := sp_go (L := L) (xs := xs) hg hT.1 a1
  obtain ⟨r1', I1', J1', R1', c1', g1', f1, cs1, m1, q1⟩ := api (ol_533 510 (by decide)) (by decide) (L := L) (xs := xs) (d := 19) (vs := [.ref 0, .int a1]) (by decide) hg ⟨g0_r (by decide), g0_i (aw _).1 (aw _).2, rfl⟩ rfl
  obtain ⟨y1, z1⟩ := ev_det c1 c1'
  cases y1
  cases z1
  obtain ⟨r2', I2', J2', R2', c2', g2', f2, cs2, m2, q2⟩ := api (ol_533 511 (by decide)) (by decide) (L := L) (xs := xs) (d := 19) (vs := [.ref 86, .int a1]) (by decide) g1 ⟨g0_r (by decide), g0_i (aw _).1 (aw _).2, rfl⟩ rfl
  obtain ⟨y2, z2⟩ := ev_det c2 c2'
  cases y2
  cases z2
  exact ⟨r1, r2, I1, I2, J1, J2, R1, R2, c1, c2, g1, g2, ⟨hT2, lwL_k f2 rfl (lwL_k f1 rfl hT.2.1), lwP_k f2 rfl (lwP_k f1 rfl hT.2.2)⟩⟩
theorem sr_now {L : Nat} {xs : Nat → Int32} {I : Nat → Nat → Int32} {J : Nat → Nat → Int64} {R : Nat → Nat → Nat} (hg : aGood (124, I, J, R)) (hT : lwA I J R) (a1 a2 : Int32) : ∃ (r1 r2 : Int32) (I1 I2 : Nat → Nat → Int32) (J1 J2 : Nat → Nat → Int64) (R1 R2 : Nat → Nat → Nat), xEv L xs 19 133 0 [.ref 0, .int a1, .int a2] [] (124, I, J, R) (some (.int r1)) (124, I1, J1, R1) ∧ xEv L xs 19 231 0 [.ref 86, .int a1, .int a2] [] (124, I1, J1, R1) (some (.int r2)) (124, I2, J2, R2) ∧ aGood (124, I1, J1, R1) ∧ aGood (124, I2, J2, R2) ∧ lwA I2 J2 R2 := by
  obtain ⟨r1, r2, I1, I2, J1, J2, R1, R2, c1, c2, g1, g2, hT2⟩ := sp_now (L := L) (xs := xs) hg hT.1 a1 a2
  obtain ⟨r1', I1', J1', R1', c1', g1', f1, cs1, m1, q1⟩ := api (ol_533 512 (by decide)) (by decide) (L := L) (xs := xs) (d := 19) (vs := [.ref 0, .int a1, .int a2]) (by decide) hg ⟨g0_r (by decide), g0_i (aw _).1 (aw _).2, g0_i (aw _).1 (aw _).2, rfl⟩ rfl
  obtain ⟨y1, z1⟩ := ev_det c1 c1'
  cases y1
  cases z1
  obtain ⟨r2', I2', J2', R2', c2', g2', f2, cs2, m2, q2⟩ := api (ol_533 514 (by decide)) (by decide) (L := L) (xs := xs) (d := 19) (vs := [.ref 86, .int a1, .int a2]) (by decide) g1 ⟨g0_r (by decide), g0_i (aw _).1 (aw _).2, g0_i (aw _).1 (aw _).2, rfl⟩ rfl
  obtain ⟨y2, z2⟩ := ev_det c2 c2'
  cases y2
  cases z2
  exact ⟨r1, r2, I1, I2, J1, J2, R1, R2, c1, c2, g1, g2, ⟨hT2, lwL_k f2 rfl (lwL_k f1 rfl hT.2.1), lwP_k f2 rfl (lwP_k f1 rfl hT.2.2)⟩⟩
theorem sr_head {L : Nat} {xs : Nat → Int32} {I : Nat → Nat → Int32} {J : Nat → Nat → Int64} {R : Nat → Nat → Nat} (hg : aGood (124, I, J, R)) (hT : lwA I J R) (a1 a2 : Int32) : ∃ (r1 r2 : Int32) (I1 I2 : Nat → Nat → Int32) (J1 J2 : Nat → Nat → Int64) (R1 R2 : Nat → Nat → Nat), xEv L xs 19 134 0 [.ref 0, .int a1, .int a2] [] (124, I, J, R) (some (.int r1)) (124, I1, J1, R1) ∧ xEv L xs 19 232 0 [.ref 86, .int a1, .int a2] [] (124, I1, J1, R1) (some (.int r2)) (124, I2, J2, R2) ∧ aGood (124, I1, J1, R1) ∧ aGood (124, I2, J2, R2) ∧ lwA I2 J2 R2 := by
  obtain ⟨r1, r2, I1, I2, J1, J2, R1, R2, c1, c2, g1, g2, hT2⟩ := sp_head (L := L) (xs := xs) hg hT.1 a1 a2
  obtain ⟨r1', I1', J1', R1', c1', g1', f1, cs1, m1, q1⟩ := api (ol_533 516 (by decide)) (by decide) (L := L) (xs := xs) (d := 19) (vs := [.ref 0, .int a1, .int a2]) (by decide) hg ⟨g0_r (by decide), g0_i (aw _).1 (aw _).2, g0_i (aw _).1 (aw _).2, rfl⟩ rfl
  obtain ⟨y1, z1⟩ := ev_det c1 c1'
  cases y1
  cases z1
  obtain ⟨r2', I2', J2', R2', c2', g2', f2, cs2, m2, q2⟩ := api (ol_533 518 (by decide)) (by decide) (L := L) (xs := xs) (d := 19) (vs := [.ref 86, .int a1, .int a2]) (by decide) g1 ⟨g0_r (by decide), g0_i (aw _).1 (aw _).2, g0_i (aw _).1 (aw _).2, rfl⟩ rfl
  obtain ⟨y2, z2⟩ := ev_det c2 c2'
  cases y2
  cases z2
  exact ⟨r1, r2, I1, I2, J1, J2, R1, R2, c1, c2, g1, g2, ⟨hT2, lwL_k f2 rfl (lwL_k f1 rfl hT.2.1), lwP_k f2 rfl (lwP_k f1 rfl hT.2.2)⟩⟩
theorem sr_keep {L : Nat} {xs : Nat → Int32} {I : Nat → Nat → Int32} {J : Nat → Nat → Int64} {R : Nat → Nat → Nat} (hg : aGood (124, I, J, R)) (hT : lwA I J R) (a1 : Int32) : ∃ (r1 r2 : Int32) (I1 I2 : Nat → Nat → Int32) (J1 J2 : Nat → Nat → Int64) (R1 R2 : Nat → Nat → Nat), xEv L xs 19 135 0 [.ref 0, .int a1, xmk] [] (124, I, J, R) (some (.int r1)) (124, I1, J1, R1) ∧ xEv L xs 19 233 0 [.ref 86, .int a1, xmk] [] (124, I1, J1, R1) (some (.int r2)) (124, I2, J2, R2) ∧ aGood (124, I1, J1, R1) ∧ aGood (124, I2, J2, R2) ∧ lwA I2 J2 R2 := by
  obtain ⟨r1, r2, I1, I2, J1, J2, R1, R2, c1, c2, g1, g2, hT2⟩ := sp_keep (L := L) (xs := xs) hg hT.1 a1
  obtain ⟨r1', I1', J1', R1', c1', g1', f1, cs1, m1, q1⟩ := api (ol_533 521 (by decide)) (by decide) (L := L) (xs := xs) (d := 19) (vs := [.ref 0, .int a1]) (by decide) hg ⟨g0_r (by decide), g0_i (aw _).1 (aw _).2, rfl⟩ rfl
  obtain ⟨y1, z1⟩ := ev_det c1 c1'
  cases y1
  cases z1
  obtain ⟨r2', I2', J2', R2', c2', g2', f2, cs2, m2, q2⟩ := api (ol_533 523 (by decide)) (by decide) (L := L) (xs := xs) (d := 19) (vs := [.ref 86, .int a1]) (by decide) g1 ⟨g0_r (by decide), g0_i (aw _).1 (aw _).2, rfl⟩ rfl
  obtain ⟨y2, z2⟩ := ev_det c2 c2'
  cases y2
  cases z2
  exact ⟨r1, r2, I1, I2, J1, J2, R1, R2, c1, c2, g1, g2, ⟨hT2, lwL_k f2 rfl (lwL_k f1 rfl hT.2.1), lwP_k f2 rfl (lwP_k f1 rfl hT.2.2)⟩⟩
theorem sr_take {L : Nat} {xs : Nat → Int32} {I : Nat → Nat → Int32} {J : Nat → Nat → Int64} {R : Nat → Nat → Nat} (hg : aGood (124, I, J, R)) (hT : lwA I J R) (a1 : Int32) : ∃ (r1 r2 : Int32) (I1 I2 : Nat → Nat → Int32) (J1 J2 : Nat → Nat → Int64) (R1 R2 : Nat → Nat → Nat), xEv L xs 19 138 0 [.ref 0, .int a1, xmk] [] (124, I, J, R) (some (.int r1)) (124, I1, J1, R1) ∧ xEv L xs 19 235 0 [.ref 86, .int a1, xmk] [] (124, I1, J1, R1) (some (.int r2)) (124, I2, J2, R2) ∧ aGood (124, I1, J1, R1) ∧ aGood (124, I2, J2, R2) ∧ lwA I2 J2 R2 := by
  obtain ⟨r1, r2, I1, I2, J1, J2, R1, R2, c1, c2, g1, g2, hT2⟩ := sp_take (L := L) (xs := xs) hg hT.1 a1
  obtain ⟨r1', I1', J1', R1', c1', g1', f1, cs1, m1, q1⟩ := api (ol_533 525 (by decide)) (by decide) (L := L) (xs := xs) (d := 19) (vs := [.ref 0, .int a1]) (by decide) hg ⟨g0_r (by decide), g0_i (aw _).1 (aw _).2, rfl⟩ rfl
  obtain ⟨y1, z1⟩ := ev_det c1 c1'
  cases y1
  cases z1
  obtain ⟨r2', I2', J2', R2', c2', g2', f2, cs2, m2, q2⟩ := api (ol_533 526 (by decide)) (by decide) (L := L) (xs := xs) (d := 19) (vs := [.ref 86, .int a1]) (by decide) g1 ⟨g0_r (by decide), g0_i (aw _).1 (aw _).2, rfl⟩ rfl
  obtain ⟨y2, z2⟩ := ev_det c2 c2'
  cases y2
  cases z2
  exact ⟨r1, r2, I1, I2, J1, J2, R1, R2, c1, c2, g1, g2, ⟨hT2, lwL_k f2 rfl (lwL_k f1 rfl hT.2.1), lwP_k f2 rfl (lwP_k f1 rfl hT.2.2)⟩⟩
theorem sr_count {L : Nat} {xs : Nat → Int32} {I : Nat → Nat → Int32} {J : Nat → Nat → Int64} {R : Nat → Nat → Nat} (hg : aGood (124, I, J, R)) (hT : lwA I J R) (a1 : Int32) : ∃ (r1 r2 : Int32) (I1 I2 : Nat → Nat → Int32) (J1 J2 : Nat → Nat → Int64) (R1 R2 : Nat → Nat → Nat), xEv L xs 19 139 0 [.ref 0, .int a1] [] (124, I, J, R) (some (.int r1)) (124, I1, J1, R1) ∧ xEv L xs 19 236 0 [.ref 86, .int a1] [] (124, I1, J1, R1) (some (.int r2)) (124, I2, J2, R2) ∧ aGood (124, I1, J1, R1) ∧ aGood (124, I2, J2, R2) ∧ lwA I2 J2 R2 := by
  obtain ⟨r1, r2, I1, I2, J1, J2, R1, R2, c1, c2, g1, g2, hT2⟩ := sp_count (L := L) (xs := xs) hg hT.1 a1
  obtain ⟨r1', I1', J1', R1', c1', g1', f1, cs1, m1, q1⟩ := api (ol_533 527 (by decide)) (by decide) (L := L) (xs := xs) (d := 19) (vs := [.ref 0, .int a1]) (by decide) hg ⟨g0_r (by decide), g0_i (aw _).1 (aw _).2, rfl⟩ rfl
  obtain ⟨y1, z1⟩ := ev_det c1 c1'
  cases y1
  cases z1
  obtain ⟨r2', I2', J2', R2', c2', g2', f2, cs2, m2, q2⟩ := api (ol_533 528 (by decide)) (by decide) (L := L) (xs := xs) (d := 19) (vs := [.ref 86, .int a1]) (by decide) g1 ⟨g0_r (by decide), g0_i (aw _).1 (aw _).2, rfl⟩ rfl
  obtain ⟨y2, z2⟩ := ev_det c2 c2'
  cases y2
  cases z2
  exact ⟨r1, r2, I1, I2, J1, J2, R1, R2, c1, c2, g1, g2, ⟨hT2, lwL_k f2 rfl (lwL_k f1 rfl hT.2.1), lwP_k f2 rfl (lwP_k f1 rfl hT.2.2)⟩⟩
