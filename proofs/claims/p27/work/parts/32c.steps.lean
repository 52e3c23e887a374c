theorem sr_feed {L : Nat} {xs : Nat → Int32} {I : Nat → Nat → Int32} {J : Nat → Nat → Int64} {R : Nat → Nat → Nat} (hg : aGood (124, I, J, R)) (hT : lwA I J R) (a1 a2 a3 a4 a5 : Int32) : ∃ (r1 r2 : Int32) (I1 I2 : Nat → Nat → Int32) (J1 J2 : Nat → Nat → Int64) (R1 R2 : Nat → Nat → Nat), xEv L xs 19 14 0 [.ref 0, .int a1, .int a2, .int a3, .int a4, .int a5] [] (124, I, J, R) (some (.int r1)) (124, I1, J1, R1) ∧ xEv L xs 19 145 0 [.ref 86, .int a1, .int a2, .int a3, .int a4, .int a5, xmk, xmk, xmk] [] (124, I1, J1, R1) (some (.int r2)) (124, I2, J2, R2) ∧ aGood (124, I1, J1, R1) ∧ aGood (124, I2, J2, R2) ∧ lwA I2 J2 R2 ∧ r2 = r1 := by
  obtain ⟨r1, r2, I1, I2, J1, J2, R1, R2, c1, c2, g1, g2, hT2, e⟩ := sp_feed (L := L) (xs := xs) hg hT.1 a1 a2 a3 a4 a5
  obtain ⟨r1', I1', J1', R1', c1', g1', f1, cs1, m1, q1⟩ := api (ol_533 113 (by decide)) (by decide) (L := L) (xs := xs) (d := 19) (vs := [.ref 0, .int a1, .int a2, .int a3, .int a4, .int a5]) (by decide) hg ⟨g0_r (by decide), g0_i (aw _).1 (aw _).2, g0_i (aw _).1 (aw _).2, g0_i (aw _).1 (aw _).2, g0_i (aw _).1 (aw _).2, g0_i (aw _).1 (aw _).2, rfl⟩ rfl
  obtain ⟨y1, z1⟩ := ev_det c1 c1'
  cases y1
  cases z1
  obtain ⟨r2', I2', J2', R2', c2', g2', f2, cs2, m2, q2⟩ := api (ol_533 114 (by decide)) (by decide) (L := L) (xs := xs) (d := 19) (vs := [.ref 86, .int a1, .int a2, .int a3, .int a4, .int a5]) (by decide) g1 ⟨g0_r (by decide), g0_i (aw _).1 (aw _).2, g0_i (aw _).1 (aw _).2, g0_i (aw _).1 (aw _).2, g0_i (aw _).1 (aw _).2, g0_i (aw _).1 (aw _).2, rfl⟩ rfl
  obtain ⟨y2, z2⟩ := ev_det c2 c2'
  cases y2
  cases z2
  have hV1 := lwV_k f1 rfl hT.1.2.1
  exact ⟨r1, r2, I1, I2, J1, J2, R1, R2, c1, c2, g1, g2, ⟨hT2, lwL_k f2 rfl (lwL_k f1 rfl hT.2.1), lwQ_k f2 rfl (lwQ_k f1 rfl hT.2.2.1), lwR_k f2 rfl rfl (np_7 hV1) (lwR_k f1 rfl rfl (np_7 hT.1.2.1) hT.2.2.2)⟩, e⟩
theorem sr_end {L : Nat} {xs : Nat → Int32} {I : Nat → Nat → Int32} {J : Nat → Nat → Int64} {R : Nat → Nat → Nat} (hg : aGood (124, I, J, R)) (hT : lwA I J R) (a1 : Int32) : ∃ (r1 r2 : Int32) (I1 I2 : Nat → Nat → Int32) (J1 J2 : Nat → Nat → Int64) (R1 R2 : Nat → Nat → Nat), xEv L xs 19 16 0 [.ref 0, .int a1] [] (124, I, J, R) (some (.int r1)) (124, I1, J1, R1) ∧ xEv L xs 19 146 0 [.ref 86, .int a1] [] (124, I1, J1, R1) (some (.int r2)) (124, I2, J2, R2) ∧ aGood (124, I1, J1, R1) ∧ aGood (124, I2, J2, R2) ∧ lwA I2 J2 R2 ∧ r2 = r1 := by
  obtain ⟨r1, r2, I1, I2, J1, J2, R1, R2, c1, c2, g1, g2, hT2, e⟩ := sp_end (L := L) (xs := xs) hg hT.1 a1
  obtain ⟨r1', I1', J1', R1', c1', g1', f1, cs1, m1, q1⟩ := api (ol_533 115 (by decide)) (by decide) (L := L) (xs := xs) (d := 19) (vs := [.ref 0, .int a1]) (by decide) hg ⟨g0_r (by decide), g0_i (aw _).1 (aw _).2, rfl⟩ rfl
  obtain ⟨y1, z1⟩ := ev_det c1 c1'
  cases y1
  cases z1
  obtain ⟨r2', I2', J2', R2', c2', g2', f2, cs2, m2, q2⟩ := api (ol_533 116 (by decide)) (by decide) (L := L) (xs := xs) (d := 19) (vs := [.ref 86, .int a1]) (by decide) g1 ⟨g0_r (by decide), g0_i (aw _).1 (aw _).2, rfl⟩ rfl
  obtain ⟨y2, z2⟩ := ev_det c2 c2'
  cases y2
  cases z2
  have hV1 := lwV_k f1 rfl hT.1.2.1
  exact ⟨r1, r2, I1, I2, J1, J2, R1, R2, c1, c2, g1, g2, ⟨hT2, lwL_k f2 rfl (lwL_k f1 rfl hT.2.1), lwQ_k f2 rfl (lwQ_k f1 rfl hT.2.2.1), lwR_k f2 rfl rfl (np_7 hV1) (lwR_k f1 rfl rfl (np_7 hT.1.2.1) hT.2.2.2)⟩, e⟩
theorem sr_village {L : Nat} {xs : Nat → Int32} {I : Nat → Nat → Int32} {J : Nat → Nat → Int64} {R : Nat → Nat → Nat} (hg : aGood (124, I, J, R)) (hT : lwA I J R) : ∃ (r1 r2 : Int32) (I1 I2 : Nat → Nat → Int32) (J1 J2 : Nat → Nat → Int64) (R1 R2 : Nat → Nat → Nat), xEv L xs 19 17 0 [.ref 0, xmk, xmk] [] (124, I, J, R) (some (.int r1)) (124, I1, J1, R1) ∧ xEv L xs 19 148 0 [.ref 86, xmk] [] (124, I1, J1, R1) (some (.int r2)) (124, I2, J2, R2) ∧ aGood (124, I1, J1, R1) ∧ aGood (124, I2, J2, R2) ∧ lwA I2 J2 R2 ∧ r2 = r1 := by
  obtain ⟨r1, r2, I1, I2, J1, J2, R1, R2, c1, c2, g1, g2, hT2, e⟩ := sp_village (L := L) (xs := xs) hg hT.1
  obtain ⟨r1', I1', J1', R1', c1', g1', f1, cs1, m1, q1⟩ := api (ol_533 305 (by decide)) (by decide) (L := L) (xs := xs) (d := 19) (vs := [.ref 0]) (by decide) hg ⟨g0_r (by decide), rfl⟩ rfl
  obtain ⟨y1, z1⟩ := ev_det c1 c1'
  cases y1
  cases z1
  obtain ⟨r2', I2', J2', R2', c2', g2', f2, cs2, m2, q2⟩ := api (ol_533 333 (by decide)) (by decide) (L := L) (xs := xs) (d := 19) (vs := [.ref 86]) (by decide) g1 ⟨g0_r (by decide), rfl⟩ rfl
  obtain ⟨y2, z2⟩ := ev_det c2 c2'
  cases y2
  cases z2
  have b1 := good_int hg 1 1 rfl
  have b2 : (aRng 1 1) = (0, 900) := rfl
  rw [b2] at b1
  dsimp only at b1
  obtain ⟨n, hn⟩ := Int.eq_ofNat_of_zero_le b1.1
  have hn' : (I 1 1).toInt = n := hn
  have p1 : I1 86 1 = I 86 1 := fr_int f1 86 1 rfl
  have p2 : ∀ q, I1 87 q = I 87 q := fun q => kp_i f1 (c := 87) (k := q) (p := 265) rfl (by decide)
  have hb : bM I1 n = bX I n := by
    funext q
    unfold bM bX
    by_cases h : q < n
    · rw [if_pos h, if_pos h, p2]
      exact hT.1.1.2 q (by omega)
    · rw [if_neg h, if_neg h]
  have hm' : (I1 86 1).toInt = n := by rw [p1, ← hT.1.1.1]; exact hn
  have n7 := np_7 hT.1.2.1
  have n16 := nm_16 hT.1.2.1
  have j66 : J2 66 7 = J 66 7 := (kp_l f2 (c := 66) (k := 7) (p := 165) rfl (by decide)).trans (kp_l f1 (c := 66) (k := 7) (p := 165) rfl (by decide))
  have j71 : J2 71 7 = J 71 7 := (kp_l f2 (c := 71) (k := 7) (p := 177) rfl (by decide)).trans (kp_l f1 (c := 71) (k := 7) (p := 177) rfl (by decide))
  have j76 : J2 76 7 = J 76 7 := (kp_l f2 (c := 76) (k := 7) (p := 189) rfl (by decide)).trans (kp_l f1 (c := 76) (k := 7) (p := 189) rfl (by decide))
  have j81 : J2 81 7 = J 81 7 := (kp_l f2 (c := 81) (k := 7) (p := 201) rfl (by decide)).trans (kp_l f1 (c := 81) (k := 7) (p := 201) rfl (by decide))
  have j122 : ∀ s, J2 122 s = J 122 s := fun s => (kp_l f2 (c := 122) (k := s) (p := 404) rfl (by decide)).trans (kp_l f1 (c := 122) (k := s) (p := 404) rfl (by decide))
  have h94 : ∀ k, k < 16 → 0 ≤ (I2 94 k).toInt ∧ (I2 94 k).toInt ≤ 23 := by
    intro q hq
    have z : aIn2 (aRng 94 q) (I2 94 q) := g2.2.1 94 q (show q < 32 by omega)
    rw [show aRng 94 q = (0, 23) from rfl] at z
    exact ⟨z.1, z.2⟩
  obtain ⟨⟨hT1, ⟨np0, nm0, nn0, l0, hV⟩, hK, hF⟩, hL, hQ, hR⟩ := hT
  refine ⟨r1, r2, I1, I2, J1, J2, R1, R2, c1, c2, g1, g2, ⟨hT2, ?_⟩, e⟩
  rcases hV with ⟨h8, h9, hV⟩ | ⟨h8, h9, hV⟩
  · rcases vil_23 (L := L) (xs := xs) (d := 11) (d' := 13) (Jc := J) (Jr := J1) (gd_of hg) h9 h8 (gd_of g1) (by decide) (by omega) hn' hm' hb with ⟨Ic, Ir, Jc, Jr, x1, x2, u8, u9, fr, fc⟩ | ⟨mm, Ic, Ir, Jc, Jr, np, nm, nn, l, x1, x2, u8, u9, hV2, k1, k2, k3, -, -, fc, fr, -, hl⟩
    · have eI1 : I1 = uI Ic 1 1 0 := congrArg (fun h : xH => h.2.1) (ev_det c1 x1).2
      have eI2 : I2 = Ir := congrArg (fun h : xH => h.2.1) (ev_det c2 x2).2
      have w : ∀ c q, c ≠ 1 → ¬ (23 ≤ c ∧ c ≤ 37) → c ≠ 43 → ¬ (c = 86 ∧ q ≤ 11) → ¬ (c = 88 ∧ 3 ≤ q) → ¬ (90 ≤ c ∧ c ≤ 100 ∧ ¬ (c = 94 ∧ q < 16)) → I2 c q = I c q := fun c q t1 t2 t3 t4 t5 t6 => by rw [eI2, fr c q (by omega) (by omega) (by omega) (by omega) (by omega), eI1, uI_n _ _ (by omega)]; exact fc c q (by omega) (by omega) (by omega)
      refine ⟨lwL_w n16 (w 88 1 (by omega) (by omega) (by omega) (by omega) (by omega) (by omega)) (w 86 26 (by omega) (by omega) (by omega) (by omega) (by omega) (by omega)) (fun t => w 101 t (by omega) (by omega) (by omega) (by omega) (by omega) (by omega)) (fun t => w 102 t (by omega) (by omega) (by omega) (by omega) (by omega) (by omega)) (fun k hk => w 94 k (by omega) (by omega) (by omega) (by omega) (by omega) (by omega)) hL, fun i hi => by rw [w 119 i (by omega) (by omega) (by omega) (by omega) (by omega) (by omega)]; exact hQ i hi, lwR_e n7 ⟨w 66 4 (by omega) (by omega) (by omega) (by omega) (by omega) (by omega), w 66 5 (by omega) (by omega) (by omega) (by omega) (by omega) (by omega), w 66 6 (by omega) (by omega) (by omega) (by omega) (by omega) (by omega), j66, fun q _ => ⟨w 67 q (by omega) (by omega) (by omega) (by omega) (by omega) (by omega), w 68 q (by omega) (by omega) (by omega) (by omega) (by omega) (by omega), w 69 q (by omega) (by omega) (by omega) (by omega) (by omega) (by omega), w 70 q (by omega) (by omega) (by omega) (by omega) (by omega) (by omega)⟩⟩ ⟨w 71 4 (by omega) (by omega) (by omega) (by omega) (by omega) (by omega), w 71 5 (by omega) (by omega) (by omega) (by omega) (by omega) (by omega), w 71 6 (by omega) (by omega) (by omega) (by omega) (by omega) (by omega), j71, fun q _ => ⟨w 72 q (by omega) (by omega) (by omega) (by omega) (by omega) (by omega), w 73 q (by omega) (by omega) (by omega) (by omega) (by omega) (by omega), w 74 q (by omega) (by omega) (by omega) (by omega) (by omega) (by omega), w 75 q (by omega) (by omega) (by omega) (by omega) (by omega) (by omega)⟩⟩ ⟨w 76 4 (by omega) (by omega) (by omega) (by omega) (by omega) (by omega), w 76 5 (by omega) (by omega) (by omega) (by omega) (by omega) (by omega), w 76 6 (by omega) (by omega) (by omega) (by omega) (by omega) (by omega), j76, fun q _ => ⟨w 77 q (by omega) (by omega) (by omega) (by omega) (by omega) (by omega), w 78 q (by omega) (by omega) (by omega) (by omega) (by omega) (by omega), w 79 q (by omega) (by omega) (by omega) (by omega) (by omega) (by omega), w 80 q (by omega) (by omega) (by omega) (by omega) (by omega) (by omega)⟩⟩ ⟨w 81 4 (by omega) (by omega) (by omega) (by omega) (by omega) (by omega), w 81 5 (by omega) (by omega) (by omega) (by omega) (by omega) (by omega), w 81 6 (by omega) (by omega) (by omega) (by omega) (by omega) (by omega), j81, fun q _ => ⟨w 82 q (by omega) (by omega) (by omega) (by omega) (by omega) (by omega), w 83 q (by omega) (by omega) (by omega) (by omega) (by omega) (by omega), w 84 q (by omega) (by omega) (by omega) (by omega) (by omega) (by omega), w 85 q (by omega) (by omega) (by omega) (by omega) (by omega) (by omega)⟩⟩ (fun q _ => w 121 q (by omega) (by omega) (by omega) (by omega) (by omega) (by omega)) (fun q _ => w 123 q (by omega) (by omega) (by omega) (by omega) (by omega) (by omega)) (w 88 0 (by omega) (by omega) (by omega) (by omega) (by omega) (by omega)) (w 88 2 (by omega) (by omega) (by omega) (by omega) (by omega) (by omega)) (fun s _ => j122 s) hR⟩
    · have eI1 : I1 = _ := congrArg (fun h : xH => h.2.1) (ev_det c1 x1).2
      have eI2 : I2 = Ir := congrArg (fun h : xH => h.2.1) (ev_det c2 x2).2
      have w2 : ∀ c q, c < 86 → I2 c q = I1 c q := fun c q t1 => by rw [eI2]; exact fr c q (by omega) (by omega) (by omega) (by omega)
      refine ⟨?_, ?_, ⟨Or.inl ⟨by rw [w2 66 4 (by omega), eI1]; rfl, by rw [eI2]; exact k2⟩, Or.inl ⟨by rw [w2 71 4 (by omega), eI1]; rfl, by rw [eI2]; exact k3 0 (by omega)⟩, Or.inl ⟨by rw [w2 76 4 (by omega), eI1]; rfl, by rw [eI2]; exact k3 1 (by omega)⟩, Or.inl ⟨by rw [w2 81 4 (by omega), eI1]; rfl, by rw [eI2]; exact k3 2 (by omega)⟩⟩⟩
      · obtain ⟨⟨p1, p2, p3⟩, p4, p5, p6, -, ⟨q3, q4⟩, -, -, q8, -, ⟨q10, q11⟩, q12, -⟩ := hV2
        rw [← eI2] at q4 q8 q11 q12
        have ec := clamp_s (i := I2 88 1) (by omega)
        have em : (I2 88 1).toNatClampNeg = nm := by omega
        refine ⟨l, ⟨?_, fun k hk => h94 k (by omega)⟩, q11, fun t a b ht => ⟨(q12 t a b ht).2.1, (q12 t a b ht).2.2.2.1⟩⟩
        rw [em, hl]
        exact tOut_e (fun k hk => by rw [(q8 k hk).2.2.1]) 96
      · intro i hi
        rw [eI2, (k1 i hi).1]
        decide
  · rcases vil_3 (L := L) (xs := xs) (d := 11) (d' := 13) (Jc := J) (Jr := J1) (gd_of hg) h9 h8 (gd_of g1) (by decide) (by omega) hn' hm' hb with ⟨Ic, Ir, Jc, Jr, x1, x2, u8, u9, fr, fc⟩ | ⟨mm, Ic, Ir, Jc, Jr, np, nm, nn, l, x1, x2, u8, u9, hV2, k1, k2, k3, -, -, fc, fr, -, hl⟩
    · have eI1 : I1 = uI Ic 1 1 0 := congrArg (fun h : xH => h.2.1) (ev_det c1 x1).2
      have eI2 : I2 = Ir := congrArg (fun h : xH => h.2.1) (ev_det c2 x2).2
      have w : ∀ c q, c ≠ 1 → ¬ (3 ≤ c ∧ c ≤ 17) → c ≠ 43 → ¬ (c = 86 ∧ q ≤ 11) → ¬ (c = 88 ∧ 3 ≤ q) → ¬ (90 ≤ c ∧ c ≤ 100 ∧ ¬ (c = 94 ∧ q < 16)) → I2 c q = I c q := fun c q t1 t2 t3 t4 t5 t6 => by rw [eI2, fr c q (by omega) (by omega) (by omega) (by omega) (by omega), eI1, uI_n _ _ (by omega)]; exact fc c q (by omega) (by omega) (by omega)
      refine ⟨lwL_w n16 (w 88 1 (by omega) (by omega) (by omega) (by omega) (by omega) (by omega)) (w 86 26 (by omega) (by omega) (by omega) (by omega) (by omega) (by omega)) (fun t => w 101 t (by omega) (by omega) (by omega) (by omega) (by omega) (by omega)) (fun t => w 102 t (by omega) (by omega) (by omega) (by omega) (by omega) (by omega)) (fun k hk => w 94 k (by omega) (by omega) (by omega) (by omega) (by omega) (by omega)) hL, fun i hi => by rw [w 119 i (by omega) (by omega) (by omega) (by omega) (by omega) (by omega)]; exact hQ i hi, lwR_e n7 ⟨w 66 4 (by omega) (by omega) (by omega) (by omega) (by omega) (by omega), w 66 5 (by omega) (by omega) (by omega) (by omega) (by omega) (by omega), w 66 6 (by omega) (by omega) (by omega) (by omega) (by omega) (by omega), j66, fun q _ => ⟨w 67 q (by omega) (by omega) (by omega) (by omega) (by omega) (by omega), w 68 q (by omega) (by omega) (by omega) (by omega) (by omega) (by omega), w 69 q (by omega) (by omega) (by omega) (by omega) (by omega) (by omega), w 70 q (by omega) (by omega) (by omega) (by omega) (by omega) (by omega)⟩⟩ ⟨w 71 4 (by omega) (by omega) (by omega) (by omega) (by omega) (by omega), w 71 5 (by omega) (by omega) (by omega) (by omega) (by omega) (by omega), w 71 6 (by omega) (by omega) (by omega) (by omega) (by omega) (by omega), j71, fun q _ => ⟨w 72 q (by omega) (by omega) (by omega) (by omega) (by omega) (by omega), w 73 q (by omega) (by omega) (by omega) (by omega) (by omega) (by omega), w 74 q (by omega) (by omega) (by omega) (by omega) (by omega) (by omega), w 75 q (by omega) (by omega) (by omega) (by omega) (by omega) (by omega)⟩⟩ ⟨w 76 4 (by omega) (by omega) (by omega) (by omega) (by omega) (by omega), w 76 5 (by omega) (by omega) (by omega) (by omega) (by omega) (by omega), w 76 6 (by omega) (by omega) (by omega) (by omega) (by omega) (by omega), j76, fun q _ => ⟨w 77 q (by omega) (by omega) (by omega) (by omega) (by omega) (by omega), w 78 q (by omega) (by omega) (by omega) (by omega) (by omega) (by omega), w 79 q (by omega) (by omega) (by omega) (by omega) (by omega) (by omega), w 80 q (by omega) (by omega) (by omega) (by omega) (by omega) (by omega)⟩⟩ ⟨w 81 4 (by omega) (by omega) (by omega) (by omega) (by omega) (by omega), w 81 5 (by omega) (by omega) (by omega) (by omega) (by omega) (by omega), w 81 6 (by omega) (by omega) (by omega) (by omega) (by omega) (by omega), j81, fun q _ => ⟨w 82 q (by omega) (by omega) (by omega) (by omega) (by omega) (by omega), w 83 q (by omega) (by omega) (by omega) (by omega) (by omega) (by omega), w 84 q (by omega) (by omega) (by omega) (by omega) (by omega) (by omega), w 85 q (by omega) (by omega) (by omega) (by omega) (by omega) (by omega)⟩⟩ (fun q _ => w 121 q (by omega) (by omega) (by omega) (by omega) (by omega) (by omega)) (fun q _ => w 123 q (by omega) (by omega) (by omega) (by omega) (by omega) (by omega)) (w 88 0 (by omega) (by omega) (by omega) (by omega) (by omega) (by omega)) (w 88 2 (by omega) (by omega) (by omega) (by omega) (by omega) (by omega)) (fun s _ => j122 s) hR⟩
    · have eI1 : I1 = _ := congrArg (fun h : xH => h.2.1) (ev_det c1 x1).2
      have eI2 : I2 = Ir := congrArg (fun h : xH => h.2.1) (ev_det c2 x2).2
      have w2 : ∀ c q, c < 86 → I2 c q = I1 c q := fun c q t1 => by rw [eI2]; exact fr c q (by omega) (by omega) (by omega) (by omega)
      refine ⟨?_, ?_, ⟨Or.inl ⟨by rw [w2 66 4 (by omega), eI1]; rfl, by rw [eI2]; exact k2⟩, Or.inl ⟨by rw [w2 71 4 (by omega), eI1]; rfl, by rw [eI2]; exact k3 0 (by omega)⟩, Or.inl ⟨by rw [w2 76 4 (by omega), eI1]; rfl, by rw [eI2]; exact k3 1 (by omega)⟩, Or.inl ⟨by rw [w2 81 4 (by omega), eI1]; rfl, by rw [eI2]; exact k3 2 (by omega)⟩⟩⟩
      · obtain ⟨⟨p1, p2, p3⟩, p4, p5, p6, -, ⟨q3, q4⟩, -, -, q8, -, ⟨q10, q11⟩, q12, -⟩ := hV2
        rw [← eI2] at q4 q8 q11 q12
        have ec := clamp_s (i := I2 88 1) (by omega)
        have em : (I2 88 1).toNatClampNeg = nm := by omega
        refine ⟨l, ⟨?_, fun k hk => h94 k (by omega)⟩, q11, fun t a b ht => ⟨(q12 t a b ht).2.1, (q12 t a b ht).2.2.2.1⟩⟩
        rw [em, hl]
        exact tOut_e (fun k hk => by rw [(q8 k hk).2.2.1]) 96
      · intro i hi
        rw [eI2, (k1 i hi).1]
        decide
theorem sr_fault {L : Nat} {xs : Nat → Int32} {I : Nat → Nat → Int32} {J : Nat → Nat → Int64} {R : Nat → Nat → Nat} (hg : aGood (124, I, J, R)) (hT : lwA I J R) (a1 : Int32) : ∃ (r1 r2 : Int32) (I1 I2 : Nat → Nat → Int32) (J1 J2 : Nat → Nat → Int64) (R1 R2 : Nat → Nat → Nat), xEv L xs 19 47 0 [.ref 0, .int a1] [] (124, I, J, R) (some (.int r1)) (124, I1, J1, R1) ∧ xEv L xs 19 147 0 [.ref 86, .int a1] [] (124, I1, J1, R1) (some (.int r2)) (124, I2, J2, R2) ∧ aGood (124, I1, J1, R1) ∧ aGood (124, I2, J2, R2) ∧ lwA I2 J2 R2 ∧ r2 = r1 := by
  obtain ⟨r1, r2, I1, I2, J1, J2, R1, R2, c1, c2, g1, g2, hT2, e⟩ := sp_fault (L := L) (xs := xs) hg hT.1 a1
  obtain ⟨r1', I1', J1', R1', c1', g1', f1, cs1, m1, q1⟩ := api (ol_533 334 (by decide)) (by decide) (L := L) (xs := xs) (d := 19) (vs := [.ref 0, .int a1]) (by decide) hg ⟨g0_r (by decide), g0_i (aw _).1 (aw _).2, rfl⟩ rfl
  obtain ⟨y1, z1⟩ := ev_det c1 c1'
  cases y1
  cases z1
  obtain ⟨r2', I2', J2', R2', c2', g2', f2, cs2, m2, q2⟩ := api (ol_533 335 (by decide)) (by decide) (L := L) (xs := xs) (d := 19) (vs := [.ref 86, .int a1]) (by decide) g1 ⟨g0_r (by decide), g0_i (aw _).1 (aw _).2, rfl⟩ rfl
  obtain ⟨y2, z2⟩ := ev_det c2 c2'
  cases y2
  cases z2
  have hV1 := lwV_k f1 rfl hT.1.2.1
  exact ⟨r1, r2, I1, I2, J1, J2, R1, R2, c1, c2, g1, g2, ⟨hT2, lwL_k f2 rfl (lwL_k f1 rfl hT.2.1), lwQ_k f2 rfl (lwQ_k f1 rfl hT.2.2.1), lwR_k f2 rfl rfl (np_7 hV1) (lwR_k f1 rfl rfl (np_7 hT.1.2.1) hT.2.2.2)⟩, e⟩
theorem sr_told {L : Nat} {xs : Nat → Int32} {I : Nat → Nat → Int32} {J : Nat → Nat → Int64} {R : Nat → Nat → Nat} (hg : aGood (124, I, J, R)) (hT : lwA I J R) (a1 : Int32) : ∃ (r1 r2 : Int32) (I1 I2 : Nat → Nat → Int32) (J1 J2 : Nat → Nat → Int64) (R1 R2 : Nat → Nat → Nat), xEv L xs 19 48 0 [.ref 0, .int a1, xmk] [] (124, I, J, R) (some (.int r1)) (124, I1, J1, R1) ∧ xEv L xs 19 166 0 [.ref 86, .int a1, xmk] [] (124, I1, J1, R1) (some (.int r2)) (124, I2, J2, R2) ∧ aGood (124, I1, J1, R1) ∧ aGood (124, I2, J2, R2) ∧ lwA I2 J2 R2 := by
  obtain ⟨r1, r2, I1, I2, J1, J2, R1, R2, c1, c2, g1, g2, hT2⟩ := sp_told (L := L) (xs := xs) hg hT.1 a1
  obtain ⟨r1', I1', J1', R1', c1', g1', f1, cs1, m1, q1⟩ := api (ol_533 347 (by decide)) (by decide) (L := L) (xs := xs) (d := 19) (vs := [.ref 0, .int a1]) (by decide) hg ⟨g0_r (by decide), g0_i (aw _).1 (aw _).2, rfl⟩ rfl
  obtain ⟨y1, z1⟩ := ev_det c1 c1'
  cases y1
  cases z1
  obtain ⟨r2', I2', J2', R2', c2', g2', f2, cs2, m2, q2⟩ := api (ol_533 352 (by decide)) (by decide) (L := L) (xs := xs) (d := 19) (vs := [.ref 86, .int a1]) (by decide) g1 ⟨g0_r (by decide), g0_i (aw _).1 (aw _).2, rfl⟩ rfl
  obtain ⟨y2, z2⟩ := ev_det c2 c2'
  cases y2
  cases z2
  have hV1 := lwV_k f1 rfl hT.1.2.1
  exact ⟨r1, r2, I1, I2, J1, J2, R1, R2, c1, c2, g1, g2, ⟨hT2, lwL_k f2 rfl (lwL_k f1 rfl hT.2.1), lwQ_k f2 rfl (lwQ_k f1 rfl hT.2.2.1), lwR_k f2 rfl rfl (np_7 hV1) (lwR_k f1 rfl rfl (np_7 hT.1.2.1) hT.2.2.2)⟩⟩
theorem sr_meeting {L : Nat} {xs : Nat → Int32} {I : Nat → Nat → Int32} {J : Nat → Nat → Int64} {R : Nat → Nat → Nat} (hg : aGood (124, I, J, R)) (hT : lwA I J R) (a1 a2 : Int32) : ∃ (r1 r2 : Int32) (I1 I2 : Nat → Nat → Int32) (J1 J2 : Nat → Nat → Int64) (R1 R2 : Nat → Nat → Nat), xEv L xs 19 51 0 [.ref 0, .int a1, .int a2] [] (124, I, J, R) (some (.int r1)) (124, I1, J1, R1) ∧ xEv L xs 19 169 0 [.ref 86, .int a1, .int a2] [] (124, I1, J1, R1) (some (.int r2)) (124, I2, J2, R2) ∧ aGood (124, I1, J1, R1) ∧ aGood (124, I2, J2, R2) ∧ lwA I2 J2 R2 := by
  obtain ⟨r1, r2, I1, I2, J1, J2, R1, R2, c1, c2, g1, g2, hT2⟩ := sp_meeting (L := L) (xs := xs) hg hT.1 a1 a2
  obtain ⟨r1', I1', J1', R1', c1', g1', f1, cs1, m1, q1⟩ := api (ol_533 357 (by decide)) (by decide) (L := L) (xs := xs) (d := 19) (vs := [.ref 0, .int a1, .int a2]) (by decide) hg ⟨g0_r (by decide), g0_i (aw _).1 (aw _).2, g0_i (aw _).1 (aw _).2, rfl⟩ rfl
  obtain ⟨y1, z1⟩ := ev_det c1 c1'
  cases y1
  cases z1
  obtain ⟨r2', I2', J2', R2', c2', g2', f2, cs2, m2, q2⟩ := api (ol_533 359 (by decide)) (by decide) (L := L) (xs := xs) (d := 19) (vs := [.ref 86, .int a1, .int a2]) (by decide) g1 ⟨g0_r (by decide), g0_i (aw _).1 (aw _).2, g0_i (aw _).1 (aw _).2, rfl⟩ rfl
  obtain ⟨y2, z2⟩ := ev_det c2 c2'
  cases y2
  cases z2
  have hV1 := lwV_k f1 rfl hT.1.2.1
  exact ⟨r1, r2, I1, I2, J1, J2, R1, R2, c1, c2, g1, g2, ⟨hT2, lwL_k f2 rfl (lwL_k f1 rfl hT.2.1), lwQ_k f2 rfl (lwQ_k f1 rfl hT.2.2.1), lwR_k f2 rfl rfl (np_7 hV1) (lwR_k f1 rfl rfl (np_7 hT.1.2.1) hT.2.2.2)⟩⟩
theorem sr_time {L : Nat} {xs : Nat → Int32} {I : Nat → Nat → Int32} {J : Nat → Nat → Int64} {R : Nat → Nat → Nat} (hg : aGood (124, I, J, R)) (hT : lwA I J R) (a1 a2 : Int32) : ∃ (r1 r2 : Int32) (I1 I2 : Nat → Nat → Int32) (J1 J2 : Nat → Nat → Int64) (R1 R2 : Nat → Nat → Nat), xEv L xs 19 52 0 [.ref 0, .int a1, .int a2] [] (124, I, J, R) (some (.int r1)) (124, I1, J1, R1) ∧ xEv L xs 19 170 0 [.ref 86, .int a1, .int a2] [] (124, I1, J1, R1) (some (.int r2)) (124, I2, J2, R2) ∧ aGood (124, I1, J1, R1) ∧ aGood (124, I2, J2, R2) ∧ lwA I2 J2 R2 := by
  obtain ⟨r1, r2, I1, I2, J1, J2, R1, R2, c1, c2, g1, g2, hT2⟩ := sp_time (L := L) (xs := xs) hg hT.1 a1 a2
  obtain ⟨r1', I1', J1', R1', c1', g1', f1, cs1, m1, q1⟩ := api (ol_533 362 (by decide)) (by decide) (L := L) (xs := xs) (d := 19) (vs := [.ref 0, .int a1, .int a2]) (by decide) hg ⟨g0_r (by decide), g0_i (aw _).1 (aw _).2, g0_i (aw _).1 (aw _).2, rfl⟩ rfl
  obtain ⟨y1, z1⟩ := ev_det c1 c1'
  cases y1
  cases z1
  obtain ⟨r2', I2', J2', R2', c2', g2', f2, cs2, m2, q2⟩ := api (ol_533 364 (by decide)) (by decide) (L := L) (xs := xs) (d := 19) (vs := [.ref 86, .int a1, .int a2]) (by decide) g1 ⟨g0_r (by decide), g0_i (aw _).1 (aw _).2, g0_i (aw _).1 (aw _).2, rfl⟩ rfl
  obtain ⟨y2, z2⟩ := ev_det c2 c2'
  cases y2
  cases z2
  have hV1 := lwV_k f1 rfl hT.1.2.1
  exact ⟨r1, r2, I1, I2, J1, J2, R1, R2, c1, c2, g1, g2, ⟨hT2, lwL_k f2 rfl (lwL_k f1 rfl hT.2.1), lwQ_k f2 rfl (lwQ_k f1 rfl hT.2.2.1), lwR_k f2 rfl rfl (np_7 hV1) (lwR_k f1 rfl rfl (np_7 hT.1.2.1) hT.2.2.2)⟩⟩
theorem sr_judge {L : Nat} {xs : Nat → Int32} {I : Nat → Nat → Int32} {J : Nat → Nat → Int64} {R : Nat → Nat → Nat} (hg : aGood (124, I, J, R)) (hT : lwA I J R) : ∃ (r1 r2 : Int32) (I1 I2 : Nat → Nat → Int32) (J1 J2 : Nat → Nat → Int64) (R1 R2 : Nat → Nat → Nat), xEv L xs 19 53 0 [.ref 0, xmk] [] (124, I, J, R) (some (.int r1)) (124, I1, J1, R1) ∧ xEv L xs 19 172 0 [.ref 86, xmk, xmk] [] (124, I1, J1, R1) (some (.int r2)) (124, I2, J2, R2) ∧ aGood (124, I1, J1, R1) ∧ aGood (124, I2, J2, R2) ∧ lwA I2 J2 R2 := by
  obtain ⟨r1, r2, I1, I2, J1, J2, R1, R2, c1, c2, g1, g2, hT2⟩ := sp_judge (L := L) (xs := xs) hg hT.1
  obtain ⟨r1', I1', J1', R1', c1', g1', f1, cs1, m1, q1⟩ := api (ol_533 380 (by decide)) (by decide) (L := L) (xs := xs) (d := 19) (vs := [.ref 0]) (by decide) hg ⟨g0_r (by decide), rfl⟩ rfl
  obtain ⟨y1, z1⟩ := ev_det c1 c1'
  cases y1
  cases z1
  obtain ⟨r2', I2', J2', R2', c2', g2', f2, cs2, m2, q2⟩ := api (ol_533 385 (by decide)) (by decide) (L := L) (xs := xs) (d := 19) (vs := [.ref 86]) (by decide) g1 ⟨g0_r (by decide), rfl⟩ rfl
  obtain ⟨y2, z2⟩ := ev_det c2 c2'
  cases y2
  cases z2
  have hV1 := lwV_k f1 rfl hT.1.2.1
  exact ⟨r1, r2, I1, I2, J1, J2, R1, R2, c1, c2, g1, g2, ⟨hT2, lwL_k f2 rfl (lwL_k f1 rfl hT.2.1), lwQ_k f2 rfl (lwQ_k f1 rfl hT.2.2.1), lwR_k f2 rfl rfl (np_7 hV1) (lwR_k f1 rfl rfl (np_7 hT.1.2.1) hT.2.2.2)⟩⟩
theorem sr_judged {L : Nat} {xs : Nat → Int32} {I : Nat → Nat → Int32} {J : Nat → Nat → Int64} {R : Nat → Nat → Nat} (hg : aGood (124, I, J, R)) (hT : lwA I J R) (a1 a2 : Int32) : ∃ (r1 r2 : Int32) (I1 I2 : Nat → Nat → Int32) (J1 J2 : Nat → Nat → Int64) (R1 R2 : Nat → Nat → Nat), xEv L xs 19 62 0 [.ref 0, .int a1, .int a2] [] (124, I, J, R) (some (.int r1)) (124, I1, J1, R1) ∧ xEv L xs 19 181 0 [.ref 86, .int a1, .int a2] [] (124, I1, J1, R1) (some (.int r2)) (124, I2, J2, R2) ∧ aGood (124, I1, J1, R1) ∧ aGood (124, I2, J2, R2) ∧ lwA I2 J2 R2 := by
  obtain ⟨r1, r2, I1, I2, J1, J2, R1, R2, c1, c2, g1, g2, hT2⟩ := sp_judged (L := L) (xs := xs) hg hT.1 a1 a2
  obtain ⟨r1', I1', J1', R1', c1', g1', f1, cs1, m1, q1⟩ := api (ol_533 387 (by decide)) (by decide) (L := L) (xs := xs) (d := 19) (vs := [.ref 0, .int a1, .int a2]) (by decide) hg ⟨g0_r (by decide), g0_i (aw _).1 (aw _).2, g0_i (aw _).1 (aw _).2, rfl⟩ rfl
  obtain ⟨y1, z1⟩ := ev_det c1 c1'
  cases y1
  cases z1
  obtain ⟨r2', I2', J2', R2', c2', g2', f2, cs2, m2, q2⟩ := api (ol_533 388 (by decide)) (by decide) (L := L) (xs := xs) (d := 19) (vs := [.ref 86, .int a1, .int a2]) (by decide) g1 ⟨g0_r (by decide), g0_i (aw _).1 (aw _).2, g0_i (aw _).1 (aw _).2, rfl⟩ rfl
  obtain ⟨y2, z2⟩ := ev_det c2 c2'
  cases y2
  cases z2
  have hV1 := lwV_k f1 rfl hT.1.2.1
  exact ⟨r1, r2, I1, I2, J1, J2, R1, R2, c1, c2, g1, g2, ⟨hT2, lwL_k f2 rfl (lwL_k f1 rfl hT.2.1), lwQ_k f2 rfl (lwQ_k f1 rfl hT.2.2.1), lwR_k f2 rfl rfl (np_7 hV1) (lwR_k f1 rfl rfl (np_7 hT.1.2.1) hT.2.2.2)⟩⟩
theorem sr_soon {L : Nat} {xs : Nat → Int32} {I : Nat → Nat → Int32} {J : Nat → Nat → Int64} {R : Nat → Nat → Nat} (hg : aGood (124, I, J, R)) (hT : lwA I J R) (a1 a2 a3 a4 : Int32) : ∃ (r1 r2 : Int32) (I1 I2 : Nat → Nat → Int32) (J1 J2 : Nat → Nat → Int64) (R1 R2 : Nat → Nat → Nat), xEv L xs 19 63 0 [.ref 0, .int a1, .int a2, .int a3, .int a4] [] (124, I, J, R) (some (.int r1)) (124, I1, J1, R1) ∧ xEv L xs 19 182 0 [.ref 86, .int a1, .int a2, .int a3, .int a4, xmk] [] (124, I1, J1, R1) (some (.int r2)) (124, I2, J2, R2) ∧ aGood (124, I1, J1, R1) ∧ aGood (124, I2, J2, R2) ∧ lwA I2 J2 R2 := by
  obtain ⟨r1, r2, I1, I2, J1, J2, R1, R2, c1, c2, g1, g2, hT2⟩ := sp_soon (L := L) (xs := xs) hg hT.1 a1 a2 a3 a4
  obtain ⟨r1', I1', J1', R1', c1', g1', f1, cs1, m1, q1⟩ := api (ol_533 391 (by decide)) (by decide) (L := L) (xs := xs) (d := 19) (vs := [.ref 0, .int a1, .int a2, .int a3, .int a4]) (by decide) hg ⟨g0_r (by decide), g0_i (aw _).1 (aw _).2, g0_i (aw _).1 (aw _).2, g0_i (aw _).1 (aw _).2, g0_i (aw _).1 (aw _).2, rfl⟩ rfl
  obtain ⟨y1, z1⟩ := ev_det c1 c1'
  cases y1
  cases z1
  obtain ⟨r2', I2', J2', R2', c2', g2', f2, cs2, m2, q2⟩ := api (ol_533 395 (by decide)) (by decide) (L := L) (xs := xs) (d := 19) (vs := [.ref 86, .int a1, .int a2, .int a3, .int a4]) (by decide) g1 ⟨g0_r (by decide), g0_i (aw _).1 (aw _).2, g0_i (aw _).1 (aw _).2, g0_i (aw _).1 (aw _).2, g0_i (aw _).1 (aw _).2, rfl⟩ rfl
  obtain ⟨y2, z2⟩ := ev_det c2 c2'
  cases y2
  cases z2
  have hV1 := lwV_k f1 rfl hT.1.2.1
  exact ⟨r1, r2, I1, I2, J1, J2, R1, R2, c1, c2, g1, g2, ⟨hT2, lwL_k f2 rfl (lwL_k f1 rfl hT.2.1), lwQ_k f2 rfl (lwQ_k f1 rfl hT.2.2.1), lwR_k f2 rfl rfl (np_7 hV1) (lwR_k f1 rfl rfl (np_7 hT.1.2.1) hT.2.2.2)⟩⟩
theorem sr_surest {L : Nat} {xs : Nat → Int32} {I : Nat → Nat → Int32} {J : Nat → Nat → Int64} {R : Nat → Nat → Nat} (hg : aGood (124, I, J, R)) (hT : lwA I J R) (a1 a2 a3 a4 a5 a6 : Int32) : ∃ (r1 r2 : Int32) (I1 I2 : Nat → Nat → Int32) (J1 J2 : Nat → Nat → Int64) (R1 R2 : Nat → Nat → Nat), xEv L xs 19 68 0 [.ref 0, .int a1, .int a2, .int a3, .int a4, .int a5, .int a6, xmk] [] (124, I, J, R) (some (.int r1)) (124, I1, J1, R1) ∧ xEv L xs 19 188 0 [.ref 86, .int a1, .int a2, .int a3, .int a4, .int a5, .int a6] [] (124, I1, J1, R1) (some (.int r2)) (124, I2, J2, R2) ∧ aGood (124, I1, J1, R1) ∧ aGood (124, I2, J2, R2) ∧ lwA I2 J2 R2 := by
  obtain ⟨r1, r2, I1, I2, J1, J2, R1, R2, c1, c2, g1, g2, hT2⟩ := sp_surest (L := L) (xs := xs) hg hT.1 a1 a2 a3 a4 a5 a6
  obtain ⟨r1', I1', J1', R1', c1', g1', f1, cs1, m1, q1⟩ := api (ol_533 402 (by decide)) (by decide) (L := L) (xs := xs) (d := 19) (vs := [.ref 0, .int a1, .int a2, .int a3, .int a4, .int a5, .int a6]) (by decide) hg ⟨g0_r (by decide), g0_i (aw _).1 (aw _).2, g0_i (aw _).1 (aw _).2, g0_i (aw _).1 (aw _).2, g0_i (aw _).1 (aw _).2, g0_i (aw _).1 (aw _).2, g0_i (aw _).1 (aw _).2, rfl⟩ rfl
  obtain ⟨y1, z1⟩ := ev_det c1 c1'
  cases y1
  cases z1
  obtain ⟨r2', I2', J2', R2', c2', g2', f2, cs2, m2, q2⟩ := api (ol_533 407 (by decide)) (by decide) (L := L) (xs := xs) (d := 19) (vs := [.ref 86, .int a1, .int a2, .int a3, .int a4, .int a5, .int a6]) (by decide) g1 ⟨g0_r (by decide), g0_i (aw _).1 (aw _).2, g0_i (aw _).1 (aw _).2, g0_i (aw _).1 (aw _).2, g0_i (aw _).1 (aw _).2, g0_i (aw _).1 (aw _).2, g0_i (aw _).1 (aw _).2, rfl⟩ rfl
  obtain ⟨y2, z2⟩ := ev_det c2 c2'
  cases y2
  cases z2
  have hV1 := lwV_k f1 rfl hT.1.2.1
  exact ⟨r1, r2, I1, I2, J1, J2, R1, R2, c1, c2, g1, g2, ⟨hT2, lwL_k f2 rfl (lwL_k f1 rfl hT.2.1), lwQ_k f2 rfl (lwQ_k f1 rfl hT.2.2.1), lwR_k f2 rfl rfl (np_7 hV1) (lwR_k f1 rfl rfl (np_7 hT.1.2.1) hT.2.2.2)⟩⟩
theorem sr_bars {L : Nat} {xs : Nat → Int32} {I : Nat → Nat → Int32} {J : Nat → Nat → Int64} {R : Nat → Nat → Nat} (hg : aGood (124, I, J, R)) (hT : lwA I J R) (a1 a2 a3 a4 : Int32) : ∃ (r1 r2 : Int32) (I1 I2 : Nat → Nat → Int32) (J1 J2 : Nat → Nat → Int64) (R1 R2 : Nat → Nat → Nat), xEv L xs 19 82 0 [.ref 0, .int a1, .int a2, .int a3, .int a4, xmk, xmk, xmk] [] (124, I, J, R) (some (.int r1)) (124, I1, J1, R1) ∧ xEv L xs 19 187 0 [.ref 86, .int a1, .int a2, .int a3, .int a4, xmk, xmk] [] (124, I1, J1, R1) (some (.int r2)) (124, I2, J2, R2) ∧ aGood (124, I1, J1, R1) ∧ aGood (124, I2, J2, R2) ∧ lwA I2 J2 R2 := by
  obtain ⟨r1, r2, I1, I2, J1, J2, R1, R2, c1, c2, g1, g2, hT2⟩ := sp_bars (L := L) (xs := xs) hg hT.1 a1 a2 a3 a4
  obtain ⟨r1', I1', J1', R1', c1', g1', f1, cs1, m1, q1⟩ := api (ol_533 408 (by decide)) (by decide) (L := L) (xs := xs) (d := 19) (vs := [.ref 0, .int a1, .int a2, .int a3, .int a4]) (by decide) hg ⟨g0_r (by decide), g0_i (aw _).1 (aw _).2, g0_i (aw _).1 (aw _).2, g0_i (aw _).1 (aw _).2, g0_i (aw _).1 (aw _).2, rfl⟩ rfl
  obtain ⟨y1, z1⟩ := ev_det c1 c1'
  cases y1
  cases z1
  obtain ⟨r2', I2', J2', R2', c2', g2', f2, cs2, m2, q2⟩ := api (ol_533 409 (by decide)) (by decide) (L := L) (xs := xs) (d := 19) (vs := [.ref 86, .int a1, .int a2, .int a3, .int a4]) (by decide) g1 ⟨g0_r (by decide), g0_i (aw _).1 (aw _).2, g0_i (aw _).1 (aw _).2, g0_i (aw _).1 (aw _).2, g0_i (aw _).1 (aw _).2, rfl⟩ rfl
  obtain ⟨y2, z2⟩ := ev_det c2 c2'
  cases y2
  cases z2
  have hV1 := lwV_k f1 rfl hT.1.2.1
  exact ⟨r1, r2, I1, I2, J1, J2, R1, R2, c1, c2, g1, g2, ⟨hT2, lwL_k f2 rfl (lwL_k f1 rfl hT.2.1), lwQ_k f2 rfl (lwQ_k f1 rfl hT.2.2.1), lwR_k f2 rfl rfl (np_7 hV1) (lwR_k f1 rfl rfl (np_7 hT.1.2.1) hT.2.2.2)⟩⟩
theorem sr_all {L : Nat} {xs : Nat → Int32} {I : Nat → Nat → Int32} {J : Nat → Nat → Int64} {R : Nat → Nat → Nat} (hg : aGood (124, I, J, R)) (hT : lwA I J R) (a1 : Int32) : ∃ (r1 r2 : Int32) (I1 I2 : Nat → Nat → Int32) (J1 J2 : Nat → Nat → Int64) (R1 R2 : Nat → Nat → Nat), xEv L xs 19 83 0 [.ref 0, .int a1] [] (124, I, J, R) (some (.int r1)) (124, I1, J1, R1) ∧ xEv L xs 19 198 0 [.ref 86, .int a1] [] (124, I1, J1, R1) (some (.int r2)) (124, I2, J2, R2) ∧ aGood (124, I1, J1, R1) ∧ aGood (124, I2, J2, R2) ∧ lwA I2 J2 R2 := by
  obtain ⟨r1, r2, I1, I2, J1, J2, R1, R2, c1, c2, g1, g2, hT2⟩ := sp_all (L := L) (xs := xs) hg hT.1 a1
  obtain ⟨r1', I1', J1', R1', c1', g1', f1, cs1, m1, q1⟩ := api (ol_533 432 (by decide)) (by decide) (L := L) (xs := xs) (d := 19) (vs := [.ref 0, .int a1]) (by decide) hg ⟨g0_r (by decide), g0_i (aw _).1 (aw _).2, rfl⟩ rfl
  obtain ⟨y1, z1⟩ := ev_det c1 c1'
  cases y1
  cases z1
  obtain ⟨r2', I2', J2', R2', c2', g2', f2, cs2, m2, q2⟩ := api (ol_533 457 (by decide)) (by decide) (L := L) (xs := xs) (d := 19) (vs := [.ref 86, .int a1]) (by decide) g1 ⟨g0_r (by decide), g0_i (aw _).1 (aw _).2, rfl⟩ rfl
  obtain ⟨y2, z2⟩ := ev_det c2 c2'
  cases y2
  cases z2
  have hV1 := lwV_k f1 rfl hT.1.2.1
  exact ⟨r1, r2, I1, I2, J1, J2, R1, R2, c1, c2, g1, g2, ⟨hT2, lwL_k f2 rfl (lwL_k f1 rfl hT.2.1), lwQ_k f2 rfl (lwQ_k f1 rfl hT.2.2.1), lwR_k f2 rfl rfl (np_7 hV1) (lwR_k f1 rfl rfl (np_7 hT.1.2.1) hT.2.2.2)⟩⟩
theorem sr_together {L : Nat} {xs : Nat → Int32} {I : Nat → Nat → Int32} {J : Nat → Nat → Int64} {R : Nat → Nat → Nat} (hg : aGood (124, I, J, R)) (hT : lwA I J R) (a1 a2 : Int32) : ∃ (r1 r2 : Int32) (I1 I2 : Nat → Nat → Int32) (J1 J2 : Nat → Nat → Int64) (R1 R2 : Nat → Nat → Nat), xEv L xs 19 93 0 [.ref 0, .int a1, .int a2, xmk] [] (124, I, J, R) (some (.int r1)) (124, I1, J1, R1) ∧ xEv L xs 19 208 0 [.ref 86, .int a1, .int a2, xmk, xmk, xmk, xmk, xmk] [] (124, I1, J1, R1) (some (.int r2)) (124, I2, J2, R2) ∧ aGood (124, I1, J1, R1) ∧ aGood (124, I2, J2, R2) ∧ lwA I2 J2 R2 := by
  obtain ⟨r1, r2, I1, I2, J1, J2, R1, R2, c1, c2, g1, g2, hT2⟩ := sp_together (L := L) (xs := xs) hg hT.1 a1 a2
  obtain ⟨r1', I1', J1', R1', c1', g1', f1, cs1, m1, q1⟩ := api (ol_533 459 (by decide)) (by decide) (L := L) (xs := xs) (d := 19) (vs := [.ref 0, .int a1, .int a2]) (by decide) hg ⟨g0_r (by decide), g0_i (aw _).1 (aw _).2, g0_i (aw _).1 (aw _).2, rfl⟩ rfl
  obtain ⟨y1, z1⟩ := ev_det c1 c1'
  cases y1
  cases z1
  obtain ⟨r2', I2', J2', R2', c2', g2', f2, cs2, m2, q2⟩ := api (ol_533 461 (by decide)) (by decide) (L := L) (xs := xs) (d := 19) (vs := [.ref 86, .int a1, .int a2]) (by decide) g1 ⟨g0_r (by decide), g0_i (aw _).1 (aw _).2, g0_i (aw _).1 (aw _).2, rfl⟩ rfl
  obtain ⟨y2, z2⟩ := ev_det c2 c2'
  cases y2
  cases z2
  have hV1 := lwV_k f1 rfl hT.1.2.1
  exact ⟨r1, r2, I1, I2, J1, J2, R1, R2, c1, c2, g1, g2, ⟨hT2, lwL_k f2 rfl (lwL_k f1 rfl hT.2.1), lwQ_k f2 rfl (lwQ_k f1 rfl hT.2.2.1), lwR_k f2 rfl rfl (np_7 hV1) (lwR_k f1 rfl rfl (np_7 hT.1.2.1) hT.2.2.2)⟩⟩
theorem sr_reply {L : Nat} {xs : Nat → Int32} {I : Nat → Nat → Int32} {J : Nat → Nat → Int64} {R : Nat → Nat → Nat} (hg : aGood (124, I, J, R)) (hT : lwA I J R) (a1 : Int32) : ∃ (r1 r2 : Int32) (I1 I2 : Nat → Nat → Int32) (J1 J2 : Nat → Nat → Int64) (R1 R2 : Nat → Nat → Nat), xEv L xs 19 95 0 [.ref 0, .int a1, xmk] [] (124, I, J, R) (some (.int r1)) (124, I1, J1, R1) ∧ xEv L xs 19 210 0 [.ref 86, .int a1, xmk, xmk, xmk] [] (124, I1, J1, R1) (some (.int r2)) (124, I2, J2, R2) ∧ aGood (124, I1, J1, R1) ∧ aGood (124, I2, J2, R2) ∧ lwA I2 J2 R2 := by
  obtain ⟨r1, r2, I1, I2, J1, J2, R1, R2, c1, c2, g1, g2, hT2⟩ := sp_reply (L := L) (xs := xs) hg hT.1 a1
  obtain ⟨r1', I1', J1', R1', c1', g1', f1, cs1, m1, q1⟩ := api (ol_533 466 (by decide)) (by decide) (L := L) (xs := xs) (d := 19) (vs := [.ref 0, .int a1]) (by decide) hg ⟨g0_r (by decide), g0_i (aw _).1 (aw _).2, rfl⟩ rfl
  obtain ⟨y1, z1⟩ := ev_det c1 c1'
  cases y1
  cases z1
  obtain ⟨r2', I2', J2', R2', c2', g2', f2, cs2, m2, q2⟩ := api (ol_533 468 (by decide)) (by decide) (L := L) (xs := xs) (d := 19) (vs := [.ref 86, .int a1]) (by decide) g1 ⟨g0_r (by decide), g0_i (aw _).1 (aw _).2, rfl⟩ rfl
  obtain ⟨y2, z2⟩ := ev_det c2 c2'
  cases y2
  cases z2
  have hV1 := lwV_k f1 rfl hT.1.2.1
  exact ⟨r1, r2, I1, I2, J1, J2, R1, R2, c1, c2, g1, g2, ⟨hT2, lwL_k f2 rfl (lwL_k f1 rfl hT.2.1), lwQ_k f2 rfl (lwQ_k f1 rfl hT.2.2.1), lwR_k f2 rfl rfl (np_7 hV1) (lwR_k f1 rfl rfl (np_7 hT.1.2.1) hT.2.2.2)⟩⟩
theorem sr_ring {L : Nat} {xs : Nat → Int32} {I : Nat → Nat → Int32} {J : Nat → Nat → Int64} {R : Nat → Nat → Nat} (hg : aGood (124, I, J, R)) (hT : lwA I J R) (a1 : Int32) : ∃ (r1 r2 : Int32) (I1 I2 : Nat → Nat → Int32) (J1 J2 : Nat → Nat → Int64) (R1 R2 : Nat → Nat → Nat), xEv L xs 19 100 0 [.ref 0, .int a1, xmk] [] (124, I, J, R) (some (.int r1)) (124, I1, J1, R1) ∧ xEv L xs 19 212 0 [.ref 86, .int a1, xmk, xmk] [] (124, I1, J1, R1) (some (.int r2)) (124, I2, J2, R2) ∧ aGood (124, I1, J1, R1) ∧ aGood (124, I2, J2, R2) ∧ lwA I2 J2 R2 := by
  obtain ⟨r1, r2, I1, I2, J1, J2, R1, R2, c1, c2, g1, g2, hT2⟩ := sp_ring (L := L) (xs := xs) hg hT.1 a1
  obtain ⟨r1', I1', J1', R1', c1', g1', f1, cs1, m1, q1⟩ := api (ol_533 478 (by decide)) (by decide) (L := L) (xs := xs) (d := 19) (vs := [.ref 0, .int a1]) (by decide) hg ⟨g0_r (by decide), g0_i (aw _).1 (aw _).2, rfl⟩ rfl
  obtain ⟨y1, z1⟩ := ev_det c1 c1'
  cases y1
  cases z1
  obtain ⟨r2', I2', J2', R2', c2', g2', f2, cs2, m2, q2⟩ := api (ol_533 479 (by decide)) (by decide) (L := L) (xs := xs) (d := 19) (vs := [.ref 86, .int a1]) (by decide) g1 ⟨g0_r (by decide), g0_i (aw _).1 (aw _).2, rfl⟩ rfl
  obtain ⟨y2, z2⟩ := ev_det c2 c2'
  cases y2
  cases z2
  have hV1 := lwV_k f1 rfl hT.1.2.1
  exact ⟨r1, r2, I1, I2, J1, J2, R1, R2, c1, c2, g1, g2, ⟨hT2, lwL_k f2 rfl (lwL_k f1 rfl hT.2.1), lwQ_k f2 rfl (lwQ_k f1 rfl hT.2.2.1), lwR_k f2 rfl rfl (np_7 hV1) (lwR_k f1 rfl rfl (np_7 hT.1.2.1) hT.2.2.2)⟩⟩
theorem sr_bestRing {L : Nat} {xs : Nat → Int32} {I : Nat → Nat → Int32} {J : Nat → Nat → Int64} {R : Nat → Nat → Nat} (hg : aGood (124, I, J, R)) (hT : lwA I J R) (a1 : Int32) : ∃ (r1 r2 : Int32) (I1 I2 : Nat → Nat → Int32) (J1 J2 : Nat → Nat → Int64) (R1 R2 : Nat → Nat → Nat), xEv L xs 19 109 0 [.ref 0, .int a1, xmk, xmk] [] (124, I, J, R) (some (.int r1)) (124, I1, J1, R1) ∧ xEv L xs 19 214 0 [.ref 86, .int a1, xmk, xmk, xmk, xmk] [] (124, I1, J1, R1) (some (.int r2)) (124, I2, J2, R2) ∧ aGood (124, I1, J1, R1) ∧ aGood (124, I2, J2, R2) ∧ lwA I2 J2 R2 := by
  obtain ⟨r1, r2, I1, I2, J1, J2, R1, R2, c1, c2, g1, g2, hT2⟩ := sp_bestRing (L := L) (xs := xs) hg hT.1 a1
  obtain ⟨r1', I1', J1', R1', c1', g1', f1, cs1, m1, q1⟩ := api (ol_533 482 (by decide)) (by decide) (L := L) (xs := xs) (d := 19) (vs := [.ref 0, .int a1]) (by decide) hg ⟨g0_r (by decide), g0_i (aw _).1 (aw _).2, rfl⟩ rfl
  obtain ⟨y1, z1⟩ := ev_det c1 c1'
  cases y1
  cases z1
  obtain ⟨r2', I2', J2', R2', c2', g2', f2, cs2, m2, q2⟩ := api (ol_533 484 (by decide)) (by decide) (L := L) (xs := xs) (d := 19) (vs := [.ref 86, .int a1]) (by decide) g1 ⟨g0_r (by decide), g0_i (aw _).1 (aw _).2, rfl⟩ rfl
  obtain ⟨y2, z2⟩ := ev_det c2 c2'
  cases y2
  cases z2
  have hV1 := lwV_k f1 rfl hT.1.2.1
  exact ⟨r1, r2, I1, I2, J1, J2, R1, R2, c1, c2, g1, g2, ⟨hT2, lwL_k f2 rfl (lwL_k f1 rfl hT.2.1), lwQ_k f2 rfl (lwQ_k f1 rfl hT.2.2.1), lwR_k f2 rfl rfl (np_7 hV1) (lwR_k f1 rfl rfl (np_7 hT.1.2.1) hT.2.2.2)⟩⟩
theorem sr_where {L : Nat} {xs : Nat → Int32} {I : Nat → Nat → Int32} {J : Nat → Nat → Int64} {R : Nat → Nat → Nat} (hg : aGood (124, I, J, R)) (hT : lwA I J R) (a1 a2 a3 a4 a5 a6 : Int32) : ∃ (r1 r2 : Int32) (I1 I2 : Nat → Nat → Int32) (J1 J2 : Nat → Nat → Int64) (R1 R2 : Nat → Nat → Nat), xEv L xs 19 111 0 [.ref 0, .int a1, .int a2, .int a3, .int a4, .int a5, .int a6] [] (124, I, J, R) (some (.int r1)) (124, I1, J1, R1) ∧ xEv L xs 19 215 0 [.ref 86, .int a1, .int a2, .int a3, .int a4, .int a5, .int a6] [] (124, I1, J1, R1) (some (.int r2)) (124, I2, J2, R2) ∧ aGood (124, I1, J1, R1) ∧ aGood (124, I2, J2, R2) ∧ lwA I2 J2 R2 := by
  obtain ⟨r1, r2, I1, I2, J1, J2, R1, R2, c1, c2, g1, g2, hT2⟩ := sp_where (L := L) (xs := xs) hg hT.1 a1 a2 a3 a4 a5 a6
  obtain ⟨r1', I1', J1', R1', c1', g1', f1, cs1, m1, q1⟩ := api (ol_533 488 (by decide)) (by decide) (L := L) (xs := xs) (d := 19) (vs := [.ref 0, .int a1, .int a2, .int a3, .int a4, .int a5, .int a6]) (by decide) hg ⟨g0_r (by decide), g0_i (aw _).1 (aw _).2, g0_i (aw _).1 (aw _).2, g0_i (aw _).1 (aw _).2, g0_i (aw _).1 (aw _).2, g0_i (aw _).1 (aw _).2, g0_i (aw _).1 (aw _).2, rfl⟩ rfl
  obtain ⟨y1, z1⟩ := ev_det c1 c1'
  cases y1
  cases z1
  obtain ⟨r2', I2', J2', R2', c2', g2', f2, cs2, m2, q2⟩ := api (ol_533 493 (by decide)) (by decide) (L := L) (xs := xs) (d := 19) (vs := [.ref 86, .int a1, .int a2, .int a3, .int a4, .int a5, .int a6]) (by decide) g1 ⟨g0_r (by decide), g0_i (aw _).1 (aw _).2, g0_i (aw _).1 (aw _).2, g0_i (aw _).1 (aw _).2, g0_i (aw _).1 (aw _).2, g0_i (aw _).1 (aw _).2, g0_i (aw _).1 (aw _).2, rfl⟩ rfl
  obtain ⟨y2, z2⟩ := ev_det c2 c2'
  cases y2
  cases z2
  have hV1 := lwV_k f1 rfl hT.1.2.1
  exact ⟨r1, r2, I1, I2, J1, J2, R1, R2, c1, c2, g1, g2, ⟨hT2, lwL_k f2 rfl (lwL_k f1 rfl hT.2.1), lwQ_k f2 rfl (lwQ_k f1 rfl hT.2.2.1), lwR_k f2 rfl rfl (np_7 hV1) (lwR_k f1 rfl rfl (np_7 hT.1.2.1) hT.2.2.2)⟩⟩
theorem sr_ask {L : Nat} {xs : Nat → Int32} {I : Nat → Nat → Int32} {J : Nat → Nat → Int64} {R : Nat → Nat → Nat} (hg : aGood (124, I, J, R)) (hT : lwA I J R) (a1 a2 a3 a4 a5 : Int32) : ∃ (r1 r2 : Int32) (I1 I2 : Nat → Nat → Int32) (J1 J2 : Nat → Nat → Int64) (R1 R2 : Nat → Nat → Nat), xEv L xs 19 114 0 [.ref 0, .int a1, .int a2, .int a3, .int a4, .int a5, xmk, xmk] [] (124, I, J, R) (some (.int r1)) (124, I1, J1, R1) ∧ xEv L xs 19 218 0 [.ref 86, .int a1, .int a2, .int a3, .int a4, .int a5, xmk, xmk] [] (124, I1, J1, R1) (some (.int r2)) (124, I2, J2, R2) ∧ aGood (124, I1, J1, R1) ∧ aGood (124, I2, J2, R2) ∧ lwA I2 J2 R2 := by
  obtain ⟨r1, r2, I1, I2, J1, J2, R1, R2, c1, c2, g1, g2, hT2⟩ := sp_ask (L := L) (xs := xs) hg hT.1 a1 a2 a3 a4 a5
  obtain ⟨r1', I1', J1', R1', c1', g1', f1, cs1, m1, q1⟩ := api (ol_533 494 (by decide)) (by decide) (L := L) (xs := xs) (d := 19) (vs := [.ref 0, .int a1, .int a2, .int a3, .int a4, .int a5]) (by decide) hg ⟨g0_r (by decide), g0_i (aw _).1 (aw _).2, g0_i (aw _).1 (aw _).2, g0_i (aw _).1 (aw _).2, g0_i (aw _).1 (aw _).2, g0_i (aw _).1 (aw _).2, rfl⟩ rfl
  obtain ⟨y1, z1⟩ := ev_det c1 c1'
  cases y1
  cases z1
  obtain ⟨r2', I2', J2', R2', c2', g2', f2, cs2, m2, q2⟩ := api (ol_533 495 (by decide)) (by decide) (L := L) (xs := xs) (d := 19) (vs := [.ref 86, .int a1, .int a2, .int a3, .int a4, .int a5]) (by decide) g1 ⟨g0_r (by decide), g0_i (aw _).1 (aw _).2, g0_i (aw _).1 (aw _).2, g0_i (aw _).1 (aw _).2, g0_i (aw _).1 (aw _).2, g0_i (aw _).1 (aw _).2, rfl⟩ rfl
  obtain ⟨y2, z2⟩ := ev_det c2 c2'
  cases y2
  cases z2
  have hV1 := lwV_k f1 rfl hT.1.2.1
  exact ⟨r1, r2, I1, I2, J1, J2, R1, R2, c1, c2, g1, g2, ⟨hT2, lwL_k f2 rfl (lwL_k f1 rfl hT.2.1), lwQ_k f2 rfl (lwQ_k f1 rfl hT.2.2.1), lwR_k f2 rfl rfl (np_7 hV1) (lwR_k f1 rfl rfl (np_7 hT.1.2.1) hT.2.2.2)⟩⟩
theorem sr_fight {L : Nat} {xs : Nat → Int32} {I : Nat → Nat → Int32} {J : Nat → Nat → Int64} {R : Nat → Nat → Nat} (hg : aGood (124, I, J, R)) (hT : lwA I J R) (a1 : Int32) : ∃ (r1 r2 : Int32) (I1 I2 : Nat → Nat → Int32) (J1 J2 : Nat → Nat → Int64) (R1 R2 : Nat → Nat → Nat), xEv L xs 19 115 0 [.ref 0, .int a1, xmk] [] (124, I, J, R) (some (.int r1)) (124, I1, J1, R1) ∧ xEv L xs 19 219 0 [.ref 86, .int a1, xmk, xmk, xmk, xmk, xmk, xmk, xmk] [] (124, I1, J1, R1) (some (.int r2)) (124, I2, J2, R2) ∧ aGood (124, I1, J1, R1) ∧ aGood (124, I2, J2, R2) ∧ lwA I2 J2 R2 := by
  obtain ⟨r1, r2, I1, I2, J1, J2, R1, R2, c1, c2, g1, g2, hT2⟩ := sp_fight (L := L) (xs := xs) hg hT.1 a1
  obtain ⟨r1', I1', J1', R1', c1', g1', f1, cs1, m1, q1⟩ := api (ol_533 498 (by decide)) (by decide) (L := L) (xs := xs) (d := 19) (vs := [.ref 0, .int a1]) (by decide) hg ⟨g0_r (by decide), g0_i (aw _).1 (aw _).2, rfl⟩ rfl
  obtain ⟨y1, z1⟩ := ev_det c1 c1'
  cases y1
  cases z1
  obtain ⟨r2', I2', J2', R2', c2', g2', f2, cs2, m2, q2⟩ := api (ol_533 499 (by decide)) (by decide) (L := L) (xs := xs) (d := 19) (vs := [.ref 86, .int a1]) (by decide) g1 ⟨g0_r (by decide), g0_i (aw _).1 (aw _).2, rfl⟩ rfl
  obtain ⟨y2, z2⟩ := ev_det c2 c2'
  cases y2
  cases z2
  have hV1 := lwV_k f1 rfl hT.1.2.1
  exact ⟨r1, r2, I1, I2, J1, J2, R1, R2, c1, c2, g1, g2, ⟨hT2, lwL_k f2 rfl (lwL_k f1 rfl hT.2.1), lwQ_k f2 rfl (lwQ_k f1 rfl hT.2.2.1), lwR_k f2 rfl rfl (np_7 hV1) (lwR_k f1 rfl rfl (np_7 hT.1.2.1) hT.2.2.2)⟩⟩
theorem sr_believe {L : Nat} {xs : Nat → Int32} {I : Nat → Nat → Int32} {J : Nat → Nat → Int64} {R : Nat → Nat → Nat} (hg : aGood (124, I, J, R)) (hT : lwA I J R) (a1 : Int32) : ∃ (r1 r2 : Int32) (I1 I2 : Nat → Nat → Int32) (J1 J2 : Nat → Nat → Int64) (R1 R2 : Nat → Nat → Nat), xEv L xs 19 118 0 [.ref 0, .int a1] [] (124, I, J, R) (some (.int r1)) (124, I1, J1, R1) ∧ xEv L xs 19 220 0 [.ref 86, .int a1] [] (124, I1, J1, R1) (some (.int r2)) (124, I2, J2, R2) ∧ aGood (124, I1, J1, R1) ∧ aGood (124, I2, J2, R2) ∧ lwA I2 J2 R2 := by
  obtain ⟨r1, r2, I1, I2, J1, J2, R1, R2, c1, c2, g1, g2, hT2⟩ := sp_believe (L := L) (xs := xs) hg hT.1 a1
  obtain ⟨r1', I1', J1', R1', c1', g1', f1, cs1, m1, q1⟩ := api (ol_533 500 (by decide)) (by decide) (L := L) (xs := xs) (d := 19) (vs := [.ref 0, .int a1]) (by decide) hg ⟨g0_r (by decide), g0_i (aw _).1 (aw _).2, rfl⟩ rfl
  obtain ⟨y1, z1⟩ := ev_det c1 c1'
  cases y1
  cases z1
  obtain ⟨r2', I2', J2', R2', c2', g2', f2, cs2, m2, q2⟩ := api (ol_533 501 (by decide)) (by decide) (L := L) (xs := xs) (d := 19) (vs := [.ref 86, .int a1]) (by decide) g1 ⟨g0_r (by decide), g0_i (aw _).1 (aw _).2, rfl⟩ rfl
  obtain ⟨y2, z2⟩ := ev_det c2 c2'
  cases y2
  cases z2
  have hV1 := lwV_k f1 rfl hT.1.2.1
  exact ⟨r1, r2, I1, I2, J1, J2, R1, R2, c1, c2, g1, g2, ⟨hT2, lwL_k f2 rfl (lwL_k f1 rfl hT.2.1), lwQ_k f2 rfl (lwQ_k f1 rfl hT.2.2.1), lwR_k f2 rfl rfl (np_7 hV1) (lwR_k f1 rfl rfl (np_7 hT.1.2.1) hT.2.2.2)⟩⟩
theorem sr_rule {L : Nat} {xs : Nat → Int32} {I : Nat → Nat → Int32} {J : Nat → Nat → Int64} {R : Nat → Nat → Nat} (hg : aGood (124, I, J, R)) (hT : lwA I J R) (a1 a2 a3 : Int32) : ∃ (r1 r2 : Int32) (I1 I2 : Nat → Nat → Int32) (J1 J2 : Nat → Nat → Int64) (R1 R2 : Nat → Nat → Nat), xEv L xs 19 119 0 [.ref 0, .int a1, .int a2, .int a3, xmk] [] (124, I, J, R) (some (.int r1)) (124, I1, J1, R1) ∧ xEv L xs 19 221 0 [.ref 86, .int a1, .int a2, .int a3, xmk] [] (124, I1, J1, R1) (some (.int r2)) (124, I2, J2, R2) ∧ aGood (124, I1, J1, R1) ∧ aGood (124, I2, J2, R2) ∧ lwA I2 J2 R2 ∧ r2 = r1 := by
  obtain ⟨r1, r2, I1, I2, J1, J2, R1, R2, c1, c2, g1, g2, hT2, e⟩ := sp_rule (L := L) (xs := xs) hg hT.1 a1 a2 a3
  obtain ⟨r1', I1', J1', R1', c1', g1', f1, cs1, m1, q1⟩ := api (ol_533 504 (by decide)) (by decide) (L := L) (xs := xs) (d := 19) (vs := [.ref 0, .int a1, .int a2, .int a3]) (by decide) hg ⟨g0_r (by decide), g0_i (aw _).1 (aw _).2, g0_i (aw _).1 (aw _).2, g0_i (aw _).1 (aw _).2, rfl⟩ rfl
  obtain ⟨y1, z1⟩ := ev_det c1 c1'
  cases y1
  cases z1
  obtain ⟨r2', I2', J2', R2', c2', g2', f2, cs2, m2, q2⟩ := api (ol_533 506 (by decide)) (by decide) (L := L) (xs := xs) (d := 19) (vs := [.ref 86, .int a1, .int a2, .int a3]) (by decide) g1 ⟨g0_r (by decide), g0_i (aw _).1 (aw _).2, g0_i (aw _).1 (aw _).2, g0_i (aw _).1 (aw _).2, rfl⟩ rfl
  obtain ⟨y2, z2⟩ := ev_det c2 c2'
  cases y2
  cases z2
  have key : lwQ I2 := by
    obtain ⟨⟨hT1, ⟨np, nm, nn, l, hV⟩, hK, hF⟩, hL, hQ, hR⟩ := hT
    have e88 : I1 88 0 = I 88 0 := fr_int f1 88 0 rfl
    rcases hV with ⟨h8, h9, hV⟩ | ⟨h8, h9, hV⟩
    · rcases rul_3 (L := L) (xs := xs) (d := 18) (d' := 17) (I := I) (J := J) (I1 := I1) (J1 := J1) (gd_of hg) (gd_of g1) h8 hV.1.1 hV.2.2.2.2.1.1 (by rw [e88]; exact hV.2.2.2.2.1.2) a1 a2 a3 with ⟨x1, x2⟩ | ⟨t1, t2, t3, t4, -, x1, x2⟩
      · have eI1 := inj_hI (ev_det c1 x1).2
        have eI2 := inj_hI (ev_det c2 x2).2
        rw [eI2, eI1]
        exact hQ
      · have eI1 := inj_hI (ev_det c1 x1).2
        have eI2 := inj_hI (ev_det c2 x2).2
        intro i hi
        by_cases g : i = a1.toNatClampNeg
        · subst g
          rw [eI2, uI_c _ _ _ (by decide), uI_s]
          exact ⟨t3, t4⟩
        · rw [eI2, uI_n _ _ (fun z => g z.2), uI_n _ _ (fun z => g z.2), eI1, uI_n _ _ (fun z => g z.2), uI_n _ _ (fun z => g z.2)]
          exact hQ i hi
    · rcases rul_23 (L := L) (xs := xs) (d := 18) (d' := 17) (I := I) (J := J) (I1 := I1) (J1 := J1) (gd_of hg) (gd_of g1) h8 hV.1.1 hV.2.2.2.2.1.1 (by rw [e88]; exact hV.2.2.2.2.1.2) a1 a2 a3 with ⟨x1, x2⟩ | ⟨t1, t2, t3, t4, -, x1, x2⟩
      · have eI1 := inj_hI (ev_det c1 x1).2
        have eI2 := inj_hI (ev_det c2 x2).2
        rw [eI2, eI1]
        exact hQ
      · have eI1 := inj_hI (ev_det c1 x1).2
        have eI2 := inj_hI (ev_det c2 x2).2
        intro i hi
        by_cases g : i = a1.toNatClampNeg
        · subst g
          rw [eI2, uI_c _ _ _ (by decide), uI_s]
          exact ⟨t3, t4⟩
        · rw [eI2, uI_n _ _ (fun z => g z.2), uI_n _ _ (fun z => g z.2), eI1, uI_n _ _ (fun z => g z.2), uI_n _ _ (fun z => g z.2)]
          exact hQ i hi
  have hV1 := lwV_k f1 rfl hT.1.2.1
  exact ⟨r1, r2, I1, I2, J1, J2, R1, R2, c1, c2, g1, g2, ⟨hT2, lwL_k f2 rfl (lwL_k f1 rfl hT.2.1), key, lwR_k f2 rfl rfl (np_7 hV1) (lwR_k f1 rfl rfl (np_7 hT.1.2.1) hT.2.2.2)⟩, e⟩
theorem sr_begin {L : Nat} {xs : Nat → Int32} {I : Nat → Nat → Int32} {J : Nat → Nat → Int64} {R : Nat → Nat → Nat} (hg : aGood (124, I, J, R)) (hT : lwA I J R) (a1 : Int32) : ∃ (r1 r2 : Int32) (I1 I2 : Nat → Nat → Int32) (J1 J2 : Nat → Nat → Int64) (R1 R2 : Nat → Nat → Nat), xEv L xs 19 120 0 [.ref 0, .int a1] [] (124, I, J, R) (some (.int r1)) (124, I1, J1, R1) ∧ xEv L xs 19 222 0 [.ref 86, .int a1, xmk] [] (124, I1, J1, R1) (some (.int r2)) (124, I2, J2, R2) ∧ aGood (124, I1, J1, R1) ∧ aGood (124, I2, J2, R2) ∧ lwA I2 J2 R2 := by
  obtain ⟨r1, r2, I1, I2, J1, J2, R1, R2, c1, c2, g1, g2, hT2⟩ := sp_begin (L := L) (xs := xs) hg hT.1 a1
  obtain ⟨r1', I1', J1', R1', c1', g1', f1, cs1, m1, q1⟩ := api (ol_533 508 (by decide)) (by decide) (L := L) (xs := xs) (d := 19) (vs := [.ref 0, .int a1]) (by decide) hg ⟨g0_r (by decide), g0_i (aw _).1 (aw _).2, rfl⟩ rfl
  obtain ⟨y1, z1⟩ := ev_det c1 c1'
  cases y1
  cases z1
  obtain ⟨r2', I2', J2', R2', c2', g2', f2, cs2, m2, q2⟩ := api (ol_533 509 (by decide)) (by decide) (L := L) (xs := xs) (d := 19) (vs := [.ref 86, .int a1]) (by decide) g1 ⟨g0_r (by decide), g0_i (aw _).1 (aw _).2, rfl⟩ rfl
  obtain ⟨y2, z2⟩ := ev_det c2 c2'
  cases y2
  cases z2
  have hG := gd_of hg
  have hG1 := gd_of g1
  have same : r1 = r2 → I1 = I → I2 = I1 → J1 = J → J2 = J1 → r2 = r1 ∧ lwR I2 J2 := fun h1 h2 h3 h4 h5 => ⟨h1.symm, by rw [h3, h2, h5, h4]; exact hT.2.2.2⟩
  have u4 : I2 66 4 = I1 66 4 := fr_int f2 66 4 rfl
  have u5 : I2 66 5 = I1 66 5 := fr_int f2 66 5 rfl
  have u6 : I2 66 6 = I1 66 6 := fr_int f2 66 6 rfl
  have u7 : J2 66 7 = J1 66 7 := kp_l f2 (c := 66) (k := 7) (p := 165) rfl (by decide)
  have u67 : ∀ q, I2 67 q = I1 67 q := fun q => kp_i f2 (c := 67) (k := q) (p := 166) rfl (by decide)
  have u68 : ∀ q, I2 68 q = I1 68 q := fun q => kp_i f2 (c := 68) (k := q) (p := 167) rfl (by decide)
  have u69 : ∀ q, I2 69 q = I1 69 q := fun q => kp_i f2 (c := 69) (k := q) (p := 168) rfl (by decide)
  have u70 : ∀ q, I2 70 q = I1 70 q := fun q => kp_i f2 (c := 70) (k := q) (p := 169) rfl (by decide)
  have e88 : I1 88 2 = I 88 2 := fr_int f1 88 2 rfl
  have e96 : ∀ q, I1 96 q = I 96 q := fun q => kp_i f1 (c := 96) (k := q) (p := 279) rfl (by decide)
  have f88 : I2 88 0 = I 88 0 := (fr_int f2 88 0 rfl).trans (fr_int f1 88 0 rfl)
  have f882 : I2 88 2 = I 88 2 := (fr_int f2 88 2 rfl).trans (fr_int f1 88 2 rfl)
  have a122 : ∀ s, J1 122 s = J 122 s := fun s => kp_l f1 (c := 122) (k := s) (p := 404) rfl (by decide)
  have key : r2 = r1 ∧ lwR I2 J2 := by
    by_cases h : a1.toInt < 0
    · skip
      obtain ⟨y1, y2⟩ := ev_det c1 (bO_n_3 hG (by omega))
      obtain ⟨y3, y4⟩ := ev_det c2 (bN_n hG1 (by omega))
      have er1 := inj_rv y1
      have er2 := inj_rv y3
      have eI1 := inj_hI y2
      have eI2 := inj_hI y4
      have eJ1 := inj_hJ y2
      have eJ2 := inj_hJ y4
      exact same (by rw [er1, er2]) eI1 eI2 eJ1 eJ2
    have n7 := np_7 hT.1.2.1
    have hR := hT.2.2.2
    obtain ⟨⟨hT1, ⟨np, nm, nn, l, hV⟩, hK, hF⟩, -⟩ := hT
    rcases hV with ⟨h8, h9, hV⟩ | ⟨h8, h9, hV⟩
    · have q1 : (I 3 14).toInt = np := hV.2.2.2.2.1.1
      have q2 : (I 88 0).toInt = np := hV.2.2.2.2.1.2
      have q5 : (I 3 16).toInt = nn := hV.2.2.2.2.2.2.1.1
      have q6 : (I 88 2).toInt = nn := hV.2.2.2.2.2.2.1.2
      have q9 := hV.2.2.2.2.2.2.2.2.2.1
      have ec := clamp_s (i := I 88 0) (by omega)
      have ed := clamp_s (i := I 88 2) (by omega)
      obtain ⟨Ic, Jc, x1, x2, x3, x4, x5, x6⟩ := bgc_3 (L := L) (xs := xs) (d := 17) (J := J) hG h8 q5 (a := a1) (by omega)
      obtain ⟨Ir, Jr, w1, w2, w3, w4, w5, w6, w7⟩ := bgr (L := L) (xs := xs) (d := 17) (I := I1) (J := J1) hG1 (by rw [e88]; exact q6) (a := a1) (by omega)
      obtain ⟨y1, y2⟩ := ev_det c1 (x1)
      obtain ⟨y3, y4⟩ := ev_det c2 (w1)
      have er1 := inj_rv y1
      have er2 := inj_rv y3
      have eI1 := inj_hI y2
      have eI2 := inj_hI y4
      have eJ1 := inj_hJ y2
      have eJ2 := inj_hJ y4
      refine ⟨by rw [er1, er2], lwR_s n7 (rnEq_t (rk_71 f2 rfl) (rk_71 f1 rfl)) (rnEq_t (rk_76 f2 rfl) (rk_76 f1 rfl)) (rnEq_t (rk_81 f2 rfl) (rk_81 f1 rfl)) (fun q h1 h2 => (kp_d121 f2 rfl q h1 h2).trans (kp_d121 f1 rfl q h1 h2)) (fun q _ => (kp_i f2 (c := 123) (k := q) (p := 405) rfl (by decide)).trans (kp_i f1 (c := 123) (k := q) (p := 405) rfl (by decide))) f88 f882 (fun s h1 _ => by rw [eJ2, w7 s h1, a122]) (Or.inr ⟨by rw [u4, eI1]; exact x2, by rw [eI2]; exact w2, by rw [eI2]; exact w2, ?_, ?_⟩) hR⟩
      · rw [u5, eI1, x3, eI2]
        exact w3.symm
      · rw [f88, f882, show (I 88 0).toNatClampNeg = np by omega, show (I 88 2).toNatClampNeg = nn by omega]
        refine beg_D hV.1.1 (x := I 3 14) (a := a1) (F := I 11) q1 (by rw [u6, eI1]; exact x4) (by rw [u7, eJ1]; exact x5) (by omega) (fun q hq => ?_) (by rw [eJ2]; exact w4) (fun q hq => by rw [eI2]; exact w5 q hq) (fun q hq => ?_)
        · rw [u67 q, u68 q, u69 q, u70 q, eI1]
          exact x6 q hq
        · obtain ⟨b1, b2, b3, b4⟩ := w6 q hq
          rw [eI2]
          refine ⟨?_, b2, b3, b4⟩
          rw [b1]
          by_cases g : q < nn
          · rw [if_pos g, if_pos g, e96]
            exact (q9 q g).1.symm
          · rw [if_neg g, if_neg g]
    · have q1 : (I 23 14).toInt = np := hV.2.2.2.2.1.1
      have q2 : (I 88 0).toInt = np := hV.2.2.2.2.1.2
      have q5 : (I 23 16).toInt = nn := hV.2.2.2.2.2.2.1.1
      have q6 : (I 88 2).toInt = nn := hV.2.2.2.2.2.2.1.2
      have q9 := hV.2.2.2.2.2.2.2.2.2.1
      have ec := clamp_s (i := I 88 0) (by omega)
      have ed := clamp_s (i := I 88 2) (by omega)
      obtain ⟨Ic, Jc, x1, x2, x3, x4, x5, x6⟩ := bgc_23 (L := L) (xs := xs) (d := 17) (J := J) hG h8 q5 (a := a1) (by omega)
      obtain ⟨Ir, Jr, w1, w2, w3, w4, w5, w6, w7⟩ := bgr (L := L) (xs := xs) (d := 17) (I := I1) (J := J1) hG1 (by rw [e88]; exact q6) (a := a1) (by omega)
      obtain ⟨y1, y2⟩ := ev_det c1 (x1)
      obtain ⟨y3, y4⟩ := ev_det c2 (w1)
      have er1 := inj_rv y1
      have er2 := inj_rv y3
      have eI1 := inj_hI y2
      have eI2 := inj_hI y4
      have eJ1 := inj_hJ y2
      have eJ2 := inj_hJ y4
      refine ⟨by rw [er1, er2], lwR_s n7 (rnEq_t (rk_71 f2 rfl) (rk_71 f1 rfl)) (rnEq_t (rk_76 f2 rfl) (rk_76 f1 rfl)) (rnEq_t (rk_81 f2 rfl) (rk_81 f1 rfl)) (fun q h1 h2 => (kp_d121 f2 rfl q h1 h2).trans (kp_d121 f1 rfl q h1 h2)) (fun q _ => (kp_i f2 (c := 123) (k := q) (p := 405) rfl (by decide)).trans (kp_i f1 (c := 123) (k := q) (p := 405) rfl (by decide))) f88 f882 (fun s h1 _ => by rw [eJ2, w7 s h1, a122]) (Or.inr ⟨by rw [u4, eI1]; exact x2, by rw [eI2]; exact w2, by rw [eI2]; exact w2, ?_, ?_⟩) hR⟩
      · rw [u5, eI1, x3, eI2]
        exact w3.symm
      · rw [f88, f882, show (I 88 0).toNatClampNeg = np by omega, show (I 88 2).toNatClampNeg = nn by omega]
        refine beg_D hV.1.1 (x := I 23 14) (a := a1) (F := I 31) q1 (by rw [u6, eI1]; exact x4) (by rw [u7, eJ1]; exact x5) (by omega) (fun q hq => ?_) (by rw [eJ2]; exact w4) (fun q hq => by rw [eI2]; exact w5 q hq) (fun q hq => ?_)
        · rw [u67 q, u68 q, u69 q, u70 q, eI1]
          exact x6 q hq
        · obtain ⟨b1, b2, b3, b4⟩ := w6 q hq
          rw [eI2]
          refine ⟨?_, b2, b3, b4⟩
          rw [b1]
          by_cases g : q < nn
          · rw [if_pos g, if_pos g, e96]
            exact (q9 q g).1.symm
          · rw [if_neg g, if_neg g]
  exact ⟨r1, r2, I1, I2, J1, J2, R1, R2, c1, c2, g1, g2, ⟨hT2, lwL_k f2 rfl (lwL_k f1 rfl hT.2.1), lwQ_k f2 rfl (lwQ_k f1 rfl hT.2.2.1), key.2⟩⟩
theorem sr_go {L : Nat} {xs : Nat → Int32} {I : Nat → Nat → Int32} {J : Nat → Nat → Int64} {R : Nat → Nat → Nat} (hg : aGood (124, I, J, R)) (hT : lwA I J R) (a1 : Int32) : ∃ (r1 r2 : Int32) (I1 I2 : Nat → Nat → Int32) (J1 J2 : Nat → Nat → Int64) (R1 R2 : Nat → Nat → Nat), xEv L xs 19 122 0 [.ref 0, .int a1, xmk] [] (124, I, J, R) (some (.int r1)) (124, I1, J1, R1) ∧ xEv L xs 19 223 0 [.ref 86, .int a1, xmk] [] (124, I1, J1, R1) (some (.int r2)) (124, I2, J2, R2) ∧ aGood (124, I1, J1, R1) ∧ aGood (124, I2, J2, R2) ∧ lwA I2 J2 R2 := by
  obtain ⟨r1, r2, I1, I2, J1, J2, R1, R2, c1, c2, g1, g2, hT2⟩ := sp_go (L := L) (xs := xs) hg hT.1 a1
  obtain ⟨r1', I1', J1', R1', c1', g1', f1, cs1, m1, q1⟩ := api (ol_533 510 (by decide)) (by decide) (L := L) (xs := xs) (d := 19) (vs := [.ref 0, .int a1]) (by decide) hg ⟨g0_r (by decide), g0_i (aw _).1 (aw _).2, rfl⟩ rfl
  obtain ⟨y1, z1⟩ := ev_det c1 c1'
  cases y1
  cases z1
  obtain ⟨r2', I2', J2', R2', c2', g2', f2, cs2, m2, q2⟩ := api (ol_533 511 (by decide)) (by decide) (L := L) (xs := xs) (d := 19) (vs := [.ref 86, .int a1]) (by decide) g1 ⟨g0_r (by decide), g0_i (aw _).1 (aw _).2, rfl⟩ rfl
  obtain ⟨y2, z2⟩ := ev_det c2 c2'
  cases y2
  cases z2
  have hG := gd_of hg
  have hG1 := gd_of g1
  have a121 := kp_c121 f1 rfl
  have k26 : I1 86 26 = I 86 26 := fr_int f1 86 26 rfl
  have kl : J1 122 0 = J 122 0 := kp_l f1 (c := 122) (k := 0) (p := 404) rfl (by decide)
  have i0 := in_ex (L := L) (xs := xs) (d := 18) (I := I1) (J := J1) hG1 a1 0 64
  rw [show (0 : Int32).toInt = 0 from by decide, show (64 : Int32).toInt = 64 from by decide] at i0
  have same : r1 = r2 → I1 = I → I2 = I1 → J1 = J → J2 = J1 → r2 = r1 ∧ lwR I2 J2 := fun h1 h2 h3 h4 h5 => ⟨h1.symm, by rw [h3, h2, h5, h4]; exact hT.2.2.2⟩
  have hch : ∀ q, q < 16 → 0 ≤ (I1 95 q).toInt ∧ (I1 95 q).toInt ≤ 10 := by
    intro q hq
    have z : aIn2 (aRng 95 q) (I1 95 q) := g1.2.1 95 q (show q < 32 by omega)
    rw [show aRng 95 q = (0, 10) from rfl] at z
    exact ⟨z.1, z.2⟩
  have key : r2 = r1 ∧ lwR I2 J2 := by
    rcases i0 with ⟨h, x⟩ | ⟨h, x⟩
    rotate_left
    · by_cases h1 : a1.toInt < 0
      · skip
        obtain ⟨y1, y2⟩ := ev_det c1 (sg_go1 hG h1)
        obtain ⟨y3, y4⟩ := ev_det c2 (sg_mg1 hG1 x)
        have er1 := inj_rv y1
        have er2 := inj_rv y3
        have eI1 := inj_hI y2
        have eI2 := inj_hI y4
        have eJ1 := inj_hJ y2
        have eJ2 := inj_hJ y4
        exact same (by rw [er1, er2]) eI1 eI2 eJ1 eJ2
      · skip
        obtain ⟨y1, y2⟩ := ev_det c1 (sg_go2 hG (by omega) (by omega))
        obtain ⟨y3, y4⟩ := ev_det c2 (sg_mg1 hG1 x)
        have er1 := inj_rv y1
        have er2 := inj_rv y3
        have eI1 := inj_hI y2
        have eI2 := inj_hI y4
        have eJ1 := inj_hJ y2
        have eJ2 := inj_hJ y4
        exact same (by rw [er1, er2]) eI1 eI2 eJ1 eJ2
    rcases hT.2.2.2.1 with ⟨n1, n2⟩ | ⟨n1, n2, n3, n4, n5⟩
    · skip
      obtain ⟨y1, y2⟩ := ev_det c1 (sg_go3 hG (by omega) (by omega) (by rw [n1]; decide))
      obtain ⟨y3, y4⟩ := ev_det c2 (sg_mg2 hG1 x (by rw [a121 0 (by decide), n2]; decide))
      have er1 := inj_rv y1
      have er2 := inj_rv y3
      have eI1 := inj_hI y2
      have eI2 := inj_hI y4
      have eJ1 := inj_hJ y2
      have eJ2 := inj_hJ y4
      exact same (by rw [er1, er2]) eI1 eI2 eJ1 eJ2
    have hy := good_int hg 66 5 rfl
    have hy2 : (aRng 66 5) = (0, 64) := rfl
    rw [hy2] at hy
    dsimp only at hy
    have n7 := np_7 hT.1.2.1
    have m4 : I 66 5 = I1 121 1 := n4.trans (a121 1 (by decide)).symm
    have m4' : (I 66 5).toInt = (I1 121 1).toInt := by rw [m4]
    have hR := hT.2.2.2
    obtain ⟨⟨hT1, ⟨np, nm, nn, l, hV⟩, hK, hF⟩, hL, hQ, -⟩ := hT
    have hKd : kdR I I1 := by
      intro i hi
      rw [show I1 119 i = I 119 i from kp_i f1 (c := 119) (k := i) (p := 302) rfl (by decide), show I1 120 i = I 120 i from kp_i f1 (c := 120) (k := i) (p := 303) rfl (by decide)]
      exact ⟨(hK i hi).1, (hK i hi).2, (hQ i hi).1, (hQ i hi).2⟩
    have e94 : ∀ k, I1 94 k = I 94 k := fun k => kp_i f1 (c := 94) (k := k) (p := 277) rfl (by decide)
    have hz : (0 : Int32).toInt = 0 := by decide
    rcases hV with ⟨h8, h9, hV⟩ | ⟨h8, h9, hV⟩
    · have q10 : (I 17 5).toInt = l.length := hV.2.2.2.2.2.2.2.2.2.2.1.1
      have q11 : (I 86 26).toInt = l.length := hV.2.2.2.2.2.2.2.2.2.2.1.2
      have p4 : l.length ≤ 64 := hV.2.1
      have es : (I 17 5 - I 66 5).toInt = (I 17 5).toInt - (I 66 5).toInt := i_sub (by omega) (by omega)
      have ea : (I1 121 1 + a1).toInt = (I1 121 1).toInt + a1.toInt := i_add (by omega) (by omega)
      by_cases h4 : a1.toInt > (I 17 5 - I 66 5).toInt
      · skip
        obtain ⟨y1, y2⟩ := ev_det c1 (sg_go4_3 hG (by omega) (by omega) (by rw [n1]; decide) h8 h4)
        obtain ⟨y3, y4⟩ := ev_det c2 (sg_mg3 hG1 x (by rw [a121 0 (by decide), n2]; decide) (by rw [k26]; omega))
        have er1 := inj_rv y1
        have er2 := inj_rv y3
        have eI1 := inj_hI y2
        have eI2 := inj_hI y4
        have eJ1 := inj_hJ y2
        have eJ2 := inj_hJ y4
        exact same (by rw [er1, er2]) eI1 eI2 eJ1 eJ2
      · have hV1 := VR_e_3 hV ⟨⟨rfl, rfl, rfl, rfl, rfl⟩, fun _ _ _ => rfl⟩ (RE_of f1 rfl)
        have hh := hrS_e (lwL_v3 hV hL) e94
        have p1 := hV.1.1
        have q2 := hV.2.2.2.2.1.2
        have q6 := hV.2.2.2.2.2.2.1.2
        have ec := clamp_s (i := I 88 0) (by omega)
        have ed := clamp_s (i := I 88 2) (by omega)
        have nP : (I 88 0).toNatClampNeg = np := by omega
        have nN : (I 88 2).toNatClampNeg = nn := by omega
        rw [nP, nN] at n5
        obtain ⟨I', Ir', J', Jr', x1, x2, x3, x4, x5⟩ := goE_3 (L := L) (xs := xs) (d := 12) (d' := 14) hG hG1 h8 (n := a1) h.2 _ 0 I I1 J J1 rfl (by decide) (by rw [hz]; omega) ⟨hV1, hch, hKd, gR_x (rnS_G.mp n5) (fun q hq => a121 q (by omega)) kl p1⟩ hh m4 (by omega) (by rw [hz]; omega)
        obtain ⟨y1, y2⟩ := ev_det c1 (sg_go5_3 hG (by omega) (by omega) (by rw [n1]; decide) h8 (by omega) x1)
        obtain ⟨y3, y4⟩ := ev_det c2 (sg_mg4 hG1 x (by rw [a121 0 (by decide), n2]; decide) (by rw [k26]; omega) x2)
        have er1 := inj_rv y1
        have er2 := inj_rv y3
        have eI1 := inj_hI y2
        have eI2 := inj_hI y4
        have eJ1 := inj_hJ y2
        have eJ2 := inj_hJ y4
        have key0 : r2 = r1 := by rw [er2, er1]; exact x5.symm
        rw [← eI1, ← eI2, ← eJ1, ← eJ2] at x4 x3
        rw [← eI1, ← eI2] at x5
        obtain ⟨-, -, -, x3⟩ := x3
        obtain ⟨w1, w2, w3, w4⟩ := x4
        have w : ∀ c k, c ≠ 53 → ¬ (c = 66 ∧ 5 ≤ k) → ¬ (67 ≤ c ∧ c ≤ 70) → ¬ (c = 86 ∧ k = 40) → ¬ (c = 121 ∧ 1 ≤ k ∧ k < 25) → I2 c k = I c k := fun c k a b e g i => (w3 c k g i).trans (w1 c k a b e)
        have wl : ∀ c k, c ≠ 54 → ¬ (c = 66 ∧ k = 7) → c ≠ 108 → ¬ (c = 122 ∧ k = 0) → J2 c k = J c k := fun c k a b e g => (w4 c k e g).trans (w2 c k a b)
        have e88 : I2 88 0 = I 88 0 := w 88 0 (by omega) (by omega) (by omega) (by omega) (by omega)
        have e882 : I2 88 2 = I 88 2 := w 88 2 (by omega) (by omega) (by omega) (by omega) (by omega)
        refine ⟨key0, lwR_s n7 ⟨w 71 4 (by omega) (by omega) (by omega) (by omega) (by omega), w 71 5 (by omega) (by omega) (by omega) (by omega) (by omega), w 71 6 (by omega) (by omega) (by omega) (by omega) (by omega), wl 71 7 (by omega) (by omega) (by omega) (by omega), fun q _ => ⟨w 72 q (by omega) (by omega) (by omega) (by omega) (by omega), w 73 q (by omega) (by omega) (by omega) (by omega) (by omega), w 74 q (by omega) (by omega) (by omega) (by omega) (by omega), w 75 q (by omega) (by omega) (by omega) (by omega) (by omega)⟩⟩ ⟨w 76 4 (by omega) (by omega) (by omega) (by omega) (by omega), w 76 5 (by omega) (by omega) (by omega) (by omega) (by omega), w 76 6 (by omega) (by omega) (by omega) (by omega) (by omega), wl 76 7 (by omega) (by omega) (by omega) (by omega), fun q _ => ⟨w 77 q (by omega) (by omega) (by omega) (by omega) (by omega), w 78 q (by omega) (by omega) (by omega) (by omega) (by omega), w 79 q (by omega) (by omega) (by omega) (by omega) (by omega), w 80 q (by omega) (by omega) (by omega) (by omega) (by omega)⟩⟩ ⟨w 81 4 (by omega) (by omega) (by omega) (by omega) (by omega), w 81 5 (by omega) (by omega) (by omega) (by omega) (by omega), w 81 6 (by omega) (by omega) (by omega) (by omega) (by omega), wl 81 7 (by omega) (by omega) (by omega) (by omega), fun q _ => ⟨w 82 q (by omega) (by omega) (by omega) (by omega) (by omega), w 83 q (by omega) (by omega) (by omega) (by omega) (by omega), w 84 q (by omega) (by omega) (by omega) (by omega) (by omega), w 85 q (by omega) (by omega) (by omega) (by omega) (by omega)⟩⟩ (fun q h1 h2 => w 121 q (by omega) (by omega) (by omega) (by omega) (by omega)) (fun q _ => w 123 q (by omega) (by omega) (by omega) (by omega) (by omega)) e88 e882 (fun s h1 _ => wl 122 s (by omega) (by omega) (by omega) (by omega)) (Or.inr ⟨?_, ?_, ?_, ?_, ?_⟩) hR⟩
        · rw [w 66 4 (by omega) (by omega) (by omega) (by omega) (by omega)]
          exact n1
        · rw [w 121 0 (by omega) (by omega) (by omega) (by omega) (by omega)]
          exact n2
        · rw [w 121 0 (by omega) (by omega) (by omega) (by omega) (by omega)]
          exact n3
        · rw [w3 66 5 (by omega) (by omega)]
          exact x5
        · rw [e88, e882, nP, nN]
          exact rnS_G.mpr (gR_y x3 (w3 66 6 (by omega) (by omega)) (fun c q h1 h2 => w3 c q (by omega) (by omega)) (w4 66 7 (by omega) (by omega)))
    · have q10 : (I 37 5).toInt = l.length := hV.2.2.2.2.2.2.2.2.2.2.1.1
      have q11 : (I 86 26).toInt = l.length := hV.2.2.2.2.2.2.2.2.2.2.1.2
      have p4 : l.length ≤ 64 := hV.2.1
      have es : (I 37 5 - I 66 5).toInt = (I 37 5).toInt - (I 66 5).toInt := i_sub (by omega) (by omega)
      have ea : (I1 121 1 + a1).toInt = (I1 121 1).toInt + a1.toInt := i_add (by omega) (by omega)
      by_cases h4 : a1.toInt > (I 37 5 - I 66 5).toInt
      · skip
        obtain ⟨y1, y2⟩ := ev_det c1 (sg_go4_23 hG (by omega) (by omega) (by rw [n1]; decide) h8 h4)
        obtain ⟨y3, y4⟩ := ev_det c2 (sg_mg3 hG1 x (by rw [a121 0 (by decide), n2]; decide) (by rw [k26]; omega))
        have er1 := inj_rv y1
        have er2 := inj_rv y3
        have eI1 := inj_hI y2
        have eI2 := inj_hI y4
        have eJ1 := inj_hJ y2
        have eJ2 := inj_hJ y4
        exact same (by rw [er1, er2]) eI1 eI2 eJ1 eJ2
      · have hV1 := VR_e_23 hV ⟨⟨rfl, rfl, rfl, rfl, rfl⟩, fun _ _ _ => rfl⟩ (RE_of f1 rfl)
        have hh := hrS_e (lwL_v23 hV hL) e94
        have p1 := hV.1.1
        have q2 := hV.2.2.2.2.1.2
        have q6 := hV.2.2.2.2.2.2.1.2
        have ec := clamp_s (i := I 88 0) (by omega)
        have ed := clamp_s (i := I 88 2) (by omega)
        have nP : (I 88 0).toNatClampNeg = np := by omega
        have nN : (I 88 2).toNatClampNeg = nn := by omega
        rw [nP, nN] at n5
        obtain ⟨I', Ir', J', Jr', x1, x2, x3, x4, x5⟩ := goE_23 (L := L) (xs := xs) (d := 12) (d' := 14) hG hG1 h8 (n := a1) h.2 _ 0 I I1 J J1 rfl (by decide) (by rw [hz]; omega) ⟨hV1, hch, hKd, gR_x (rnS_G.mp n5) (fun q hq => a121 q (by omega)) kl p1⟩ hh m4 (by omega) (by rw [hz]; omega)
        obtain ⟨y1, y2⟩ := ev_det c1 (sg_go5_23 hG (by omega) (by omega) (by rw [n1]; decide) h8 (by omega) x1)
        obtain ⟨y3, y4⟩ := ev_det c2 (sg_mg4 hG1 x (by rw [a121 0 (by decide), n2]; decide) (by rw [k26]; omega) x2)
        have er1 := inj_rv y1
        have er2 := inj_rv y3
        have eI1 := inj_hI y2
        have eI2 := inj_hI y4
        have eJ1 := inj_hJ y2
        have eJ2 := inj_hJ y4
        have key0 : r2 = r1 := by rw [er2, er1]; exact x5.symm
        rw [← eI1, ← eI2, ← eJ1, ← eJ2] at x4 x3
        rw [← eI1, ← eI2] at x5
        obtain ⟨-, -, -, x3⟩ := x3
        obtain ⟨w1, w2, w3, w4⟩ := x4
        have w : ∀ c k, c ≠ 53 → ¬ (c = 66 ∧ 5 ≤ k) → ¬ (67 ≤ c ∧ c ≤ 70) → ¬ (c = 86 ∧ k = 40) → ¬ (c = 121 ∧ 1 ≤ k ∧ k < 25) → I2 c k = I c k := fun c k a b e g i => (w3 c k g i).trans (w1 c k a b e)
        have wl : ∀ c k, c ≠ 54 → ¬ (c = 66 ∧ k = 7) → c ≠ 108 → ¬ (c = 122 ∧ k = 0) → J2 c k = J c k := fun c k a b e g => (w4 c k e g).trans (w2 c k a b)
        have e88 : I2 88 0 = I 88 0 := w 88 0 (by omega) (by omega) (by omega) (by omega) (by omega)
        have e882 : I2 88 2 = I 88 2 := w 88 2 (by omega) (by omega) (by omega) (by omega) (by omega)
        refine ⟨key0, lwR_s n7 ⟨w 71 4 (by omega) (by omega) (by omega) (by omega) (by omega), w 71 5 (by omega) (by omega) (by omega) (by omega) (by omega), w 71 6 (by omega) (by omega) (by omega) (by omega) (by omega), wl 71 7 (by omega) (by omega) (by omega) (by omega), fun q _ => ⟨w 72 q (by omega) (by omega) (by omega) (by omega) (by omega), w 73 q (by omega) (by omega) (by omega) (by omega) (by omega), w 74 q (by omega) (by omega) (by omega) (by omega) (by omega), w 75 q (by omega) (by omega) (by omega) (by omega) (by omega)⟩⟩ ⟨w 76 4 (by omega) (by omega) (by omega) (by omega) (by omega), w 76 5 (by omega) (by omega) (by omega) (by omega) (by omega), w 76 6 (by omega) (by omega) (by omega) (by omega) (by omega), wl 76 7 (by omega) (by omega) (by omega) (by omega), fun q _ => ⟨w 77 q (by omega) (by omega) (by omega) (by omega) (by omega), w 78 q (by omega) (by omega) (by omega) (by omega) (by omega), w 79 q (by omega) (by omega) (by omega) (by omega) (by omega), w 80 q (by omega) (by omega) (by omega) (by omega) (by omega)⟩⟩ ⟨w 81 4 (by omega) (by omega) (by omega) (by omega) (by omega), w 81 5 (by omega) (by omega) (by omega) (by omega) (by omega), w 81 6 (by omega) (by omega) (by omega) (by omega) (by omega), wl 81 7 (by omega) (by omega) (by omega) (by omega), fun q _ => ⟨w 82 q (by omega) (by omega) (by omega) (by omega) (by omega), w 83 q (by omega) (by omega) (by omega) (by omega) (by omega), w 84 q (by omega) (by omega) (by omega) (by omega) (by omega), w 85 q (by omega) (by omega) (by omega) (by omega) (by omega)⟩⟩ (fun q h1 h2 => w 121 q (by omega) (by omega) (by omega) (by omega) (by omega)) (fun q _ => w 123 q (by omega) (by omega) (by omega) (by omega) (by omega)) e88 e882 (fun s h1 _ => wl 122 s (by omega) (by omega) (by omega) (by omega)) (Or.inr ⟨?_, ?_, ?_, ?_, ?_⟩) hR⟩
        · rw [w 66 4 (by omega) (by omega) (by omega) (by omega) (by omega)]
          exact n1
        · rw [w 121 0 (by omega) (by omega) (by omega) (by omega) (by omega)]
          exact n2
        · rw [w 121 0 (by omega) (by omega) (by omega) (by omega) (by omega)]
          exact n3
        · rw [w3 66 5 (by omega) (by omega)]
          exact x5
        · rw [e88, e882, nP, nN]
          exact rnS_G.mpr (gR_y x3 (w3 66 6 (by omega) (by omega)) (fun c q h1 h2 => w3 c q (by omega) (by omega)) (w4 66 7 (by omega) (by omega)))
  exact ⟨r1, r2, I1, I2, J1, J2, R1, R2, c1, c2, g1, g2, ⟨hT2, lwL_k f2 rfl (lwL_k f1 rfl hT.2.1), lwQ_k f2 rfl (lwQ_k f1 rfl hT.2.2.1), key.2⟩⟩
theorem sr_now {L : Nat} {xs : Nat → Int32} {I : Nat → Nat → Int32} {J : Nat → Nat → Int64} {R : Nat → Nat → Nat} (hg : aGood (124, I, J, R)) (hT : lwA I J R) (a1 a2 : Int32) : ∃ (r1 r2 : Int32) (I1 I2 : Nat → Nat → Int32) (J1 J2 : Nat → Nat → Int64) (R1 R2 : Nat → Nat → Nat), xEv L xs 19 133 0 [.ref 0, .int a1, .int a2] [] (124, I, J, R) (some (.int r1)) (124, I1, J1, R1) ∧ xEv L xs 19 231 0 [.ref 86, .int a1, .int a2] [] (124, I1, J1, R1) (some (.int r2)) (124, I2, J2, R2) ∧ aGood (124, I1, J1, R1) ∧ aGood (124, I2, J2, R2) ∧ lwA I2 J2 R2 := by
  obtain ⟨r1, r2, I1, I2, J1, J2, R1, R2, c1, c2, g1, g2, hT2⟩ := sp_now (L := L) (xs := xs) hg hT.1 a1 a2
  obtain ⟨r1', I1', J1', R1', c1', g1', f1, cs1, m1, q1⟩ := api (ol_533 512 (by decide)) (by decide) (L := L) (xs := xs) (d := 19) (vs := [.ref 0, .int a1, .int a2]) (by decide) hg ⟨g0_r (by decide), g0_i (aw _).1 (aw _).2, g0_i (aw _).1 (aw _).2, rfl⟩ rfl
  obtain ⟨y1, z1⟩ := ev_det c1 c1'
  cases y1
  cases z1
  obtain ⟨r2', I2', J2', R2', c2', g2', f2, cs2, m2, q2⟩ := api (ol_533 514 (by decide)) (by decide) (L := L) (xs := xs) (d := 19) (vs := [.ref 86, .int a1, .int a2]) (by decide) g1 ⟨g0_r (by decide), g0_i (aw _).1 (aw _).2, g0_i (aw _).1 (aw _).2, rfl⟩ rfl
  obtain ⟨y2, z2⟩ := ev_det c2 c2'
  cases y2
  cases z2
  have hV1 := lwV_k f1 rfl hT.1.2.1
  exact ⟨r1, r2, I1, I2, J1, J2, R1, R2, c1, c2, g1, g2, ⟨hT2, lwL_k f2 rfl (lwL_k f1 rfl hT.2.1), lwQ_k f2 rfl (lwQ_k f1 rfl hT.2.2.1), lwR_k f2 rfl rfl (np_7 hV1) (lwR_k f1 rfl rfl (np_7 hT.1.2.1) hT.2.2.2)⟩⟩
theorem sr_head {L : Nat} {xs : Nat → Int32} {I : Nat → Nat → Int32} {J : Nat → Nat → Int64} {R : Nat → Nat → Nat} (hg : aGood (124, I, J, R)) (hT : lwA I J R) (a1 a2 : Int32) : ∃ (r1 r2 : Int32) (I1 I2 : Nat → Nat → Int32) (J1 J2 : Nat → Nat → Int64) (R1 R2 : Nat → Nat → Nat), xEv L xs 19 134 0 [.ref 0, .int a1, .int a2] [] (124, I, J, R) (some (.int r1)) (124, I1, J1, R1) ∧ xEv L xs 19 232 0 [.ref 86, .int a1, .int a2] [] (124, I1, J1, R1) (some (.int r2)) (124, I2, J2, R2) ∧ aGood (124, I1, J1, R1) ∧ aGood (124, I2, J2, R2) ∧ lwA I2 J2 R2 ∧ r2 = r1 := by
  obtain ⟨r1, r2, I1, I2, J1, J2, R1, R2, c1, c2, g1, g2, hT2⟩ := sp_head (L := L) (xs := xs) hg hT.1 a1 a2
  obtain ⟨r1', I1', J1', R1', c1', g1', f1, cs1, m1, q1⟩ := api (ol_533 516 (by decide)) (by decide) (L := L) (xs := xs) (d := 19) (vs := [.ref 0, .int a1, .int a2]) (by decide) hg ⟨g0_r (by decide), g0_i (aw _).1 (aw _).2, g0_i (aw _).1 (aw _).2, rfl⟩ rfl
  obtain ⟨y1, z1⟩ := ev_det c1 c1'
  cases y1
  cases z1
  obtain ⟨r2', I2', J2', R2', c2', g2', f2, cs2, m2, q2⟩ := api (ol_533 518 (by decide)) (by decide) (L := L) (xs := xs) (d := 19) (vs := [.ref 86, .int a1, .int a2]) (by decide) g1 ⟨g0_r (by decide), g0_i (aw _).1 (aw _).2, g0_i (aw _).1 (aw _).2, rfl⟩ rfl
  obtain ⟨y2, z2⟩ := ev_det c2 c2'
  cases y2
  cases z2
  have hV1 := lwV_k f1 rfl hT.1.2.1
  have key : r2 = r1 := by
    obtain ⟨⟨hT1, ⟨np, nm, nn, l, hV⟩, hK, hF⟩, -, -, hR⟩ := hT
    have e121 := kp_c121 f1 rfl
    rcases hV with ⟨h8, h9, hV⟩ | ⟨h8, h9, hV⟩
    · have hV1 := VR_e_3 hV ⟨⟨rfl, rfl, rfl, rfl, rfl⟩, fun _ _ _ => rfl⟩ (RE_of f1 rfl)
      have q2 := hV.2.2.2.2.1.2
      have q6 := hV.2.2.2.2.2.2.1.2
      have ec := clamp_s (i := I 88 0) (by omega)
      have ed := clamp_s (i := I 88 2) (by omega)
      have r0 := hR.1
      rw [show (I 88 0).toNatClampNeg = np by omega, show (I 88 2).toNatClampNeg = nn by omega] at r0
      have rr : rnG np nn I I1 J J1 := by
        rcases r0 with ⟨a1, a2⟩ | ⟨a1, a2, a3, a4, a5⟩
        · exact Or.inl ⟨a1, by rw [e121 0 (by omega)]; exact a2⟩
        · exact Or.inr ⟨a1, by rw [e121 0 (by omega)]; exact a2, gR_x (rnS_G.mp a5) (fun q hq => e121 q (by omega)) (kp_l f1 (c := 122) (k := 0) (p := 404) rfl (by decide)) hV.1.1⟩
      obtain ⟨r, x1, x2⟩ := headE_3 (L := L) (xs := xs) (d := 16) (d' := 17) (gd_of hg) (gd_of g1) h8 hV1 rr a1 a2
      rw [inj_rv (ev_det c1 x1).1, inj_rv (ev_det c2 x2).1]
    · have hV1 := VR_e_23 hV ⟨⟨rfl, rfl, rfl, rfl, rfl⟩, fun _ _ _ => rfl⟩ (RE_of f1 rfl)
      have q2 := hV.2.2.2.2.1.2
      have q6 := hV.2.2.2.2.2.2.1.2
      have ec := clamp_s (i := I 88 0) (by omega)
      have ed := clamp_s (i := I 88 2) (by omega)
      have r0 := hR.1
      rw [show (I 88 0).toNatClampNeg = np by omega, show (I 88 2).toNatClampNeg = nn by omega] at r0
      have rr : rnG np nn I I1 J J1 := by
        rcases r0 with ⟨a1, a2⟩ | ⟨a1, a2, a3, a4, a5⟩
        · exact Or.inl ⟨a1, by rw [e121 0 (by omega)]; exact a2⟩
        · exact Or.inr ⟨a1, by rw [e121 0 (by omega)]; exact a2, gR_x (rnS_G.mp a5) (fun q hq => e121 q (by omega)) (kp_l f1 (c := 122) (k := 0) (p := 404) rfl (by decide)) hV.1.1⟩
      obtain ⟨r, x1, x2⟩ := headE_23 (L := L) (xs := xs) (d := 16) (d' := 17) (gd_of hg) (gd_of g1) h8 hV1 rr a1 a2
      rw [inj_rv (ev_det c1 x1).1, inj_rv (ev_det c2 x2).1]
  exact ⟨r1, r2, I1, I2, J1, J2, R1, R2, c1, c2, g1, g2, ⟨hT2, lwL_k f2 rfl (lwL_k f1 rfl hT.2.1), lwQ_k f2 rfl (lwQ_k f1 rfl hT.2.2.1), lwR_k f2 rfl rfl (np_7 hV1) (lwR_k f1 rfl rfl (np_7 hT.1.2.1) hT.2.2.2)⟩, key⟩
theorem sr_keep {L : Nat} {xs : Nat → Int32} {I : Nat → Nat → Int32} {J : Nat → Nat → Int64} {R : Nat → Nat → Nat} (hg : aGood (124, I, J, R)) (hT : lwA I J R) (a1 : Int32) : ∃ (r1 r2 : Int32) (I1 I2 : Nat → Nat → Int32) (J1 J2 : Nat → Nat → Int64) (R1 R2 : Nat → Nat → Nat), xEv L xs 19 135 0 [.ref 0, .int a1, xmk] [] (124, I, J, R) (some (.int r1)) (124, I1, J1, R1) ∧ xEv L xs 19 233 0 [.ref 86, .int a1, xmk] [] (124, I1, J1, R1) (some (.int r2)) (124, I2, J2, R2) ∧ aGood (124, I1, J1, R1) ∧ aGood (124, I2, J2, R2) ∧ lwA I2 J2 R2 := by
  obtain ⟨r1, r2, I1, I2, J1, J2, R1, R2, c1, c2, g1, g2, hT2⟩ := sp_keep (L := L) (xs := xs) hg hT.1 a1
  obtain ⟨r1', I1', J1', R1', c1', g1', f1, cs1, m1, q1⟩ := api (ol_533 521 (by decide)) (by decide) (L := L) (xs := xs) (d := 19) (vs := [.ref 0, .int a1]) (by decide) hg ⟨g0_r (by decide), g0_i (aw _).1 (aw _).2, rfl⟩ rfl
  obtain ⟨y1, z1⟩ := ev_det c1 c1'
  cases y1
  cases z1
  obtain ⟨r2', I2', J2', R2', c2', g2', f2, cs2, m2, q2⟩ := api (ol_533 523 (by decide)) (by decide) (L := L) (xs := xs) (d := 19) (vs := [.ref 86, .int a1]) (by decide) g1 ⟨g0_r (by decide), g0_i (aw _).1 (aw _).2, rfl⟩ rfl
  obtain ⟨y2, z2⟩ := ev_det c2 c2'
  cases y2
  cases z2
  have hG := gd_of hg
  have hG1 := gd_of g1
  have a121 := kp_c121 f1 rfl
  have a122 : ∀ s, J1 122 s = J 122 s := fun s => kp_l f1 (c := 122) (k := s) (p := 404) rfl (by decide)
  have a123 : ∀ q, I1 123 q = I 123 q := fun q => kp_i f1 (c := 123) (k := q) (p := 405) rfl (by decide)
  have f88 : I2 88 0 = I 88 0 := (fr_int f2 88 0 rfl).trans (fr_int f1 88 0 rfl)
  have f882 : I2 88 2 = I 88 2 := (fr_int f2 88 2 rfl).trans (fr_int f1 88 2 rfl)
  have k66 := rk_66 f2 rfl
  have k71 := rk_71 f2 rfl
  have k76 := rk_76 f2 rfl
  have k81 := rk_81 f2 rfl
  have n7 := np_7 hT.1.2.1
  have same : r1 = r2 → I1 = I → I2 = I1 → J1 = J → J2 = J1 → r2 = r1 ∧ lwR I2 J2 := fun h1 h2 h3 h4 h5 => ⟨h1.symm, by rw [h3, h2, h5, h4]; exact hT.2.2.2⟩
  have key : r2 = r1 ∧ lwR I2 J2 := by
    by_cases h : 0 ≤ a1.toInt ∧ a1.toInt ≤ 2
    rotate_left
    · have x := isl (L := L) (xs := xs) (d := 17) (I := I1) (J := J1) hG1 h
      by_cases h1 : a1.toInt < 0
      · skip
        obtain ⟨y1, y2⟩ := ev_det c1 (kX_n hG h1)
        obtain ⟨y3, y4⟩ := ev_det c2 (kM_n hG1 x)
        have er1 := inj_rv y1
        have er2 := inj_rv y3
        have eI1 := inj_hI y2
        have eI2 := inj_hI y4
        have eJ1 := inj_hJ y2
        have eJ2 := inj_hJ y4
        exact same (by rw [er1, er2]) eI1 eI2 eJ1 eJ2
      · skip
        obtain ⟨y1, y2⟩ := ev_det c1 (kX_b hG (by omega) (by omega))
        obtain ⟨y3, y4⟩ := ev_det c2 (kM_n hG1 x)
        have er1 := inj_rv y1
        have er2 := inj_rv y3
        have eI1 := inj_hI y2
        have eI2 := inj_hI y4
        have eJ1 := inj_hJ y2
        have eJ2 := inj_hJ y4
        exact same (by rw [er1, er2]) eI1 eI2 eJ1 eJ2
    have h3 := i3_of h
    obtain ⟨m0, t0, t1, t2⟩ := hT.2.2.2
    rcases h3 with rfl | rfl | rfl
    · have m0' := m0
      rcases m0 with ⟨n1, n2⟩ | ⟨n1, n2, n3, n4, n5⟩
      · skip
        obtain ⟨y1, y2⟩ := ev_det c1 (kX_o0 hG (by rw [n1]; decide))
        obtain ⟨y3, y4⟩ := ev_det c2 (kM_o0 hG1 (isl_0 hG1) (by rw [a121 0 (by decide), n2]; decide))
        have er1 := inj_rv y1
        have er2 := inj_rv y3
        have eI1 := inj_hI y2
        have eI2 := inj_hI y4
        have eJ1 := inj_hJ y2
        have eJ2 := inj_hJ y4
        exact same (by rw [er1, er2]) eI1 eI2 eJ1 eJ2
      · obtain ⟨Ic, Jc, x1, x2, x4, x5, x6, -⟩ := kx_0 (L := L) (xs := xs) (d := 17) (J := J) hG n1
        obtain ⟨Ir, Jr, w1, w2, ⟨w30, w31, w32, w33⟩, w4, w5⟩ := km_0 (L := L) (xs := xs) (d := 17) (I := I1) (J := J1) hG1 (by rw [a121 0 (by decide), n2]; decide)
        obtain ⟨y1, y2⟩ := ev_det c1 (x1)
        obtain ⟨y3, y4⟩ := ev_det c2 (w1)
        have er1 := inj_rv y1
        have er2 := inj_rv y3
        have eI1 := inj_hI y2
        have eI2 := inj_hI y4
        have eJ1 := inj_hJ y2
        have eJ2 := inj_hJ y4
        refine ⟨by rw [er1, er2, a121 1 (by decide)]; exact n4.symm, ?_⟩
        have e121 : ∀ q, q < 100 → I2 121 q = if 25 ≤ q ∧ q < 25 + 25 then I 121 (q - 25) else I 121 q := by
          intro q hq
          rw [eI2, w5 q hq]
          by_cases hc : 25 ≤ q ∧ q < 25 + 25
          · rw [if_pos hc, if_pos hc, a121 _ (by omega)]
          · rw [if_neg hc, if_neg hc, a121 _ hq]
        rw [← eI1, ← eJ1] at x2 x4 x5 x6
        unfold lwR
        rw [f88, f882]
        have new : rnS 71 25 1 (I2 123 0) (I 88 0).toNatClampNeg (I 88 2).toNatClampNeg I2 J2 := rnS_m n7 m0' (rnEq_t k71 x2) (fun q hq => by rw [e121 _ (by omega), if_pos ⟨by omega, by omega⟩]; exact congrArg (I 121) (by omega)) (by rw [eJ2, w31, a122]) (by rw [eI2, w2, n2])
        have run : rnS 66 0 0 (I2 121 0) (I 88 0).toNatClampNeg (I 88 2).toNatClampNeg I2 J2 := rnS_m n7 m0' (rnEq_t k66 x4) (fun q hq => by rw [e121 _ (by omega), if_neg (by omega)]) (by rw [eJ2, w30, a122]) (by rw [e121 _ (by omega), if_neg (by omega)])
        have oth1 : rnS 76 50 2 (I2 123 1) (I 88 0).toNatClampNeg (I 88 2).toNatClampNeg I2 J2 := rnS_m n7 t1 (rnEq_t k76 x5) (fun q hq => by rw [e121 _ (by omega), if_neg (by omega)]) (by rw [eJ2, w32, a122]) (by rw [eI2, w4.1, a123])
        have oth2 : rnS 81 75 3 (I2 123 2) (I 88 0).toNatClampNeg (I 88 2).toNatClampNeg I2 J2 := rnS_m n7 t2 (rnEq_t k81 x6) (fun q hq => by rw [e121 _ (by omega), if_neg (by omega)]) (by rw [eJ2, w33, a122]) (by rw [eI2, w4.2, a123])
        exact ⟨run, new, oth1, oth2⟩
    · have m0' := m0
      rcases m0 with ⟨n1, n2⟩ | ⟨n1, n2, n3, n4, n5⟩
      · skip
        obtain ⟨y1, y2⟩ := ev_det c1 (kX_o1 hG (by rw [n1]; decide))
        obtain ⟨y3, y4⟩ := ev_det c2 (kM_o1 hG1 (isl_1 hG1) (by rw [a121 0 (by decide), n2]; decide))
        have er1 := inj_rv y1
        have er2 := inj_rv y3
        have eI1 := inj_hI y2
        have eI2 := inj_hI y4
        have eJ1 := inj_hJ y2
        have eJ2 := inj_hJ y4
        exact same (by rw [er1, er2]) eI1 eI2 eJ1 eJ2
      · obtain ⟨Ic, Jc, x1, x2, x4, x5, x6, -⟩ := kx_1 (L := L) (xs := xs) (d := 17) (J := J) hG n1
        obtain ⟨Ir, Jr, w1, w2, ⟨w30, w31, w32, w33⟩, w4, w5⟩ := km_1 (L := L) (xs := xs) (d := 17) (I := I1) (J := J1) hG1 (by rw [a121 0 (by decide), n2]; decide)
        obtain ⟨y1, y2⟩ := ev_det c1 (x1)
        obtain ⟨y3, y4⟩ := ev_det c2 (w1)
        have er1 := inj_rv y1
        have er2 := inj_rv y3
        have eI1 := inj_hI y2
        have eI2 := inj_hI y4
        have eJ1 := inj_hJ y2
        have eJ2 := inj_hJ y4
        refine ⟨by rw [er1, er2, a121 1 (by decide)]; exact n4.symm, ?_⟩
        have e121 : ∀ q, q < 100 → I2 121 q = if 50 ≤ q ∧ q < 50 + 25 then I 121 (q - 50) else I 121 q := by
          intro q hq
          rw [eI2, w5 q hq]
          by_cases hc : 50 ≤ q ∧ q < 50 + 25
          · rw [if_pos hc, if_pos hc, a121 _ (by omega)]
          · rw [if_neg hc, if_neg hc, a121 _ hq]
        rw [← eI1, ← eJ1] at x2 x4 x5 x6
        unfold lwR
        rw [f88, f882]
        have new : rnS 76 50 2 (I2 123 1) (I 88 0).toNatClampNeg (I 88 2).toNatClampNeg I2 J2 := rnS_m n7 m0' (rnEq_t k76 x2) (fun q hq => by rw [e121 _ (by omega), if_pos ⟨by omega, by omega⟩]; exact congrArg (I 121) (by omega)) (by rw [eJ2, w31, a122]) (by rw [eI2, w2, n2])
        have run : rnS 66 0 0 (I2 121 0) (I 88 0).toNatClampNeg (I 88 2).toNatClampNeg I2 J2 := rnS_m n7 m0' (rnEq_t k66 x4) (fun q hq => by rw [e121 _ (by omega), if_neg (by omega)]) (by rw [eJ2, w30, a122]) (by rw [e121 _ (by omega), if_neg (by omega)])
        have oth0 : rnS 71 25 1 (I2 123 0) (I 88 0).toNatClampNeg (I 88 2).toNatClampNeg I2 J2 := rnS_m n7 t0 (rnEq_t k71 x5) (fun q hq => by rw [e121 _ (by omega), if_neg (by omega)]) (by rw [eJ2, w32, a122]) (by rw [eI2, w4.1, a123])
        have oth2 : rnS 81 75 3 (I2 123 2) (I 88 0).toNatClampNeg (I 88 2).toNatClampNeg I2 J2 := rnS_m n7 t2 (rnEq_t k81 x6) (fun q hq => by rw [e121 _ (by omega), if_neg (by omega)]) (by rw [eJ2, w33, a122]) (by rw [eI2, w4.2, a123])
        exact ⟨run, oth0, new, oth2⟩
    · have m0' := m0
      rcases m0 with ⟨n1, n2⟩ | ⟨n1, n2, n3, n4, n5⟩
      · skip
        obtain ⟨y1, y2⟩ := ev_det c1 (kX_o2 hG (by rw [n1]; decide))
        obtain ⟨y3, y4⟩ := ev_det c2 (kM_o2 hG1 (isl_2 hG1) (by rw [a121 0 (by decide), n2]; decide))
        have er1 := inj_rv y1
        have er2 := inj_rv y3
        have eI1 := inj_hI y2
        have eI2 := inj_hI y4
        have eJ1 := inj_hJ y2
        have eJ2 := inj_hJ y4
        exact same (by rw [er1, er2]) eI1 eI2 eJ1 eJ2
      · obtain ⟨Ic, Jc, x1, x2, x4, x5, x6, -⟩ := kx_2 (L := L) (xs := xs) (d := 17) (J := J) hG n1
        obtain ⟨Ir, Jr, w1, w2, ⟨w30, w31, w32, w33⟩, w4, w5⟩ := km_2 (L := L) (xs := xs) (d := 17) (I := I1) (J := J1) hG1 (by rw [a121 0 (by decide), n2]; decide)
        obtain ⟨y1, y2⟩ := ev_det c1 (x1)
        obtain ⟨y3, y4⟩ := ev_det c2 (w1)
        have er1 := inj_rv y1
        have er2 := inj_rv y3
        have eI1 := inj_hI y2
        have eI2 := inj_hI y4
        have eJ1 := inj_hJ y2
        have eJ2 := inj_hJ y4
        refine ⟨by rw [er1, er2, a121 1 (by decide)]; exact n4.symm, ?_⟩
        have e121 : ∀ q, q < 100 → I2 121 q = if 75 ≤ q ∧ q < 75 + 25 then I 121 (q - 75) else I 121 q := by
          intro q hq
          rw [eI2, w5 q hq]
          by_cases hc : 75 ≤ q ∧ q < 75 + 25
          · rw [if_pos hc, if_pos hc, a121 _ (by omega)]
          · rw [if_neg hc, if_neg hc, a121 _ hq]
        rw [← eI1, ← eJ1] at x2 x4 x5 x6
        unfold lwR
        rw [f88, f882]
        have new : rnS 81 75 3 (I2 123 2) (I 88 0).toNatClampNeg (I 88 2).toNatClampNeg I2 J2 := rnS_m n7 m0' (rnEq_t k81 x2) (fun q hq => by rw [e121 _ (by omega), if_pos ⟨by omega, by omega⟩]; exact congrArg (I 121) (by omega)) (by rw [eJ2, w31, a122]) (by rw [eI2, w2, n2])
        have run : rnS 66 0 0 (I2 121 0) (I 88 0).toNatClampNeg (I 88 2).toNatClampNeg I2 J2 := rnS_m n7 m0' (rnEq_t k66 x4) (fun q hq => by rw [e121 _ (by omega), if_neg (by omega)]) (by rw [eJ2, w30, a122]) (by rw [e121 _ (by omega), if_neg (by omega)])
        have oth0 : rnS 71 25 1 (I2 123 0) (I 88 0).toNatClampNeg (I 88 2).toNatClampNeg I2 J2 := rnS_m n7 t0 (rnEq_t k71 x5) (fun q hq => by rw [e121 _ (by omega), if_neg (by omega)]) (by rw [eJ2, w32, a122]) (by rw [eI2, w4.1, a123])
        have oth1 : rnS 76 50 2 (I2 123 1) (I 88 0).toNatClampNeg (I 88 2).toNatClampNeg I2 J2 := rnS_m n7 t1 (rnEq_t k76 x6) (fun q hq => by rw [e121 _ (by omega), if_neg (by omega)]) (by rw [eJ2, w33, a122]) (by rw [eI2, w4.2, a123])
        exact ⟨run, oth0, oth1, new⟩
  exact ⟨r1, r2, I1, I2, J1, J2, R1, R2, c1, c2, g1, g2, ⟨hT2, lwL_k f2 rfl (lwL_k f1 rfl hT.2.1), lwQ_k f2 rfl (lwQ_k f1 rfl hT.2.2.1), key.2⟩⟩
theorem sr_take {L : Nat} {xs : Nat → Int32} {I : Nat → Nat → Int32} {J : Nat → Nat → Int64} {R : Nat → Nat → Nat} (hg : aGood (124, I, J, R)) (hT : lwA I J R) (a1 : Int32) : ∃ (r1 r2 : Int32) (I1 I2 : Nat → Nat → Int32) (J1 J2 : Nat → Nat → Int64) (R1 R2 : Nat → Nat → Nat), xEv L xs 19 138 0 [.ref 0, .int a1, xmk] [] (124, I, J, R) (some (.int r1)) (124, I1, J1, R1) ∧ xEv L xs 19 235 0 [.ref 86, .int a1, xmk] [] (124, I1, J1, R1) (some (.int r2)) (124, I2, J2, R2) ∧ aGood (124, I1, J1, R1) ∧ aGood (124, I2, J2, R2) ∧ lwA I2 J2 R2 := by
  obtain ⟨r1, r2, I1, I2, J1, J2, R1, R2, c1, c2, g1, g2, hT2⟩ := sp_take (L := L) (xs := xs) hg hT.1 a1
  obtain ⟨r1', I1', J1', R1', c1', g1', f1, cs1, m1, q1⟩ := api (ol_533 525 (by decide)) (by decide) (L := L) (xs := xs) (d := 19) (vs := [.ref 0, .int a1]) (by decide) hg ⟨g0_r (by decide), g0_i (aw _).1 (aw _).2, rfl⟩ rfl
  obtain ⟨y1, z1⟩ := ev_det c1 c1'
  cases y1
  cases z1
  obtain ⟨r2', I2', J2', R2', c2', g2', f2, cs2, m2, q2⟩ := api (ol_533 526 (by decide)) (by decide) (L := L) (xs := xs) (d := 19) (vs := [.ref 86, .int a1]) (by decide) g1 ⟨g0_r (by decide), g0_i (aw _).1 (aw _).2, rfl⟩ rfl
  obtain ⟨y2, z2⟩ := ev_det c2 c2'
  cases y2
  cases z2
  have hG := gd_of hg
  have hG1 := gd_of g1
  have a121 := kp_c121 f1 rfl
  have a122 : ∀ s, J1 122 s = J 122 s := fun s => kp_l f1 (c := 122) (k := s) (p := 404) rfl (by decide)
  have a123 : ∀ q, I1 123 q = I 123 q := fun q => kp_i f1 (c := 123) (k := q) (p := 405) rfl (by decide)
  have f88 : I2 88 0 = I 88 0 := (fr_int f2 88 0 rfl).trans (fr_int f1 88 0 rfl)
  have f882 : I2 88 2 = I 88 2 := (fr_int f2 88 2 rfl).trans (fr_int f1 88 2 rfl)
  have k66 := rk_66 f2 rfl
  have k71 := rk_71 f2 rfl
  have k76 := rk_76 f2 rfl
  have k81 := rk_81 f2 rfl
  have n7 := np_7 hT.1.2.1
  have same : r1 = r2 → I1 = I → I2 = I1 → J1 = J → J2 = J1 → r2 = r1 ∧ lwR I2 J2 := fun h1 h2 h3 h4 h5 => ⟨h1.symm, by rw [h3, h2, h5, h4]; exact hT.2.2.2⟩
  have key : r2 = r1 ∧ lwR I2 J2 := by
    by_cases h : 0 ≤ a1.toInt ∧ a1.toInt ≤ 2
    rotate_left
    · have x := isl (L := L) (xs := xs) (d := 17) (I := I1) (J := J1) hG1 h
      by_cases h1 : a1.toInt < 0
      · skip
        obtain ⟨y1, y2⟩ := ev_det c1 (tX_n hG h1)
        obtain ⟨y3, y4⟩ := ev_det c2 (tM_n hG1 x)
        have er1 := inj_rv y1
        have er2 := inj_rv y3
        have eI1 := inj_hI y2
        have eI2 := inj_hI y4
        have eJ1 := inj_hJ y2
        have eJ2 := inj_hJ y4
        exact same (by rw [er1, er2]) eI1 eI2 eJ1 eJ2
      · skip
        obtain ⟨y1, y2⟩ := ev_det c1 (tX_b hG (by omega) (by omega))
        obtain ⟨y3, y4⟩ := ev_det c2 (tM_n hG1 x)
        have er1 := inj_rv y1
        have er2 := inj_rv y3
        have eI1 := inj_hI y2
        have eI2 := inj_hI y4
        have eJ1 := inj_hJ y2
        have eJ2 := inj_hJ y4
        exact same (by rw [er1, er2]) eI1 eI2 eJ1 eJ2
    have h3 := i3_of h
    obtain ⟨m0, t0, t1, t2⟩ := hT.2.2.2
    rcases h3 with rfl | rfl | rfl
    · have m0' := t0
      rcases t0 with ⟨n1, n2⟩ | ⟨n1, n2, n3, n4, n5⟩
      · skip
        obtain ⟨y1, y2⟩ := ev_det c1 (tX_o0 hG (sA_0 hG) (by rw [n1]; decide))
        obtain ⟨y3, y4⟩ := ev_det c2 (tM_o0 hG1 (isl_0 hG1) (by rw [a123, n2]; decide))
        have er1 := inj_rv y1
        have er2 := inj_rv y3
        have eI1 := inj_hI y2
        have eI2 := inj_hI y4
        have eJ1 := inj_hJ y2
        have eJ2 := inj_hJ y4
        exact same (by rw [er1, er2]) eI1 eI2 eJ1 eJ2
      · obtain ⟨Ic, Jc, x1, x2, x4, x5, x6⟩ := tx_0 (L := L) (xs := xs) (d := 17) (J := J) hG n1
        obtain ⟨Ir, Jr, w1, ⟨w30, w31, w32, w33⟩, w4, w5⟩ := tm_0 (L := L) (xs := xs) (d := 17) (I := I1) (J := J1) hG1 (by rw [a123, n2]; decide)
        obtain ⟨y1, y2⟩ := ev_det c1 (x1)
        obtain ⟨y3, y4⟩ := ev_det c2 (w1)
        have er1 := inj_rv y1
        have er2 := inj_rv y3
        have eI1 := inj_hI y2
        have eI2 := inj_hI y4
        have eJ1 := inj_hJ y2
        have eJ2 := inj_hJ y4
        refine ⟨by rw [er1, er2, a121 _ (by decide)]; exact n4.symm, ?_⟩
        have e121 : ∀ q, q < 100 → I2 121 q = if q < 25 then I 121 (25 + q) else I 121 q := by
          intro q hq
          rw [eI2, w5 q hq]
          by_cases hc : q < 25
          · rw [if_pos hc, if_pos hc, a121 _ (by omega)]
          · rw [if_neg hc, if_neg hc, a121 _ hq]
        rw [← eI1, ← eJ1] at x2 x4 x5 x6
        unfold lwR
        rw [f88, f882]
        have run : rnS 66 0 0 (I2 121 0) (I 88 0).toNatClampNeg (I 88 2).toNatClampNeg I2 J2 := rnS_m n7 m0' (rnEq_t k66 x2) (fun q hq => by rw [e121 _ (by omega), if_pos (by omega)]; exact congrArg (I 121) (by omega)) (by rw [eJ2, w30, a122]) (by rw [e121 0 (by omega), if_pos (by omega), n2]; exact n3)
        have oth0 : rnS 71 25 1 (I2 123 0) (I 88 0).toNatClampNeg (I 88 2).toNatClampNeg I2 J2 := rnS_m n7 m0' (rnEq_t k71 x4) (fun q hq => by rw [e121 _ (by omega), if_neg (by omega)]) (by rw [eJ2, w31, a122]) (by rw [eI2, w4 0, a123])
        have oth1 : rnS 76 50 2 (I2 123 1) (I 88 0).toNatClampNeg (I 88 2).toNatClampNeg I2 J2 := rnS_m n7 t1 (rnEq_t k76 x5) (fun q hq => by rw [e121 _ (by omega), if_neg (by omega)]) (by rw [eJ2, w32, a122]) (by rw [eI2, w4 1, a123])
        have oth2 : rnS 81 75 3 (I2 123 2) (I 88 0).toNatClampNeg (I 88 2).toNatClampNeg I2 J2 := rnS_m n7 t2 (rnEq_t k81 x6) (fun q hq => by rw [e121 _ (by omega), if_neg (by omega)]) (by rw [eJ2, w33, a122]) (by rw [eI2, w4 2, a123])
        exact ⟨run, oth0, oth1, oth2⟩
    · have m0' := t1
      rcases t1 with ⟨n1, n2⟩ | ⟨n1, n2, n3, n4, n5⟩
      · skip
        obtain ⟨y1, y2⟩ := ev_det c1 (tX_o1 hG (sA_1 hG) (by rw [n1]; decide))
        obtain ⟨y3, y4⟩ := ev_det c2 (tM_o1 hG1 (isl_1 hG1) (by rw [a123, n2]; decide))
        have er1 := inj_rv y1
        have er2 := inj_rv y3
        have eI1 := inj_hI y2
        have eI2 := inj_hI y4
        have eJ1 := inj_hJ y2
        have eJ2 := inj_hJ y4
        exact same (by rw [er1, er2]) eI1 eI2 eJ1 eJ2
      · obtain ⟨Ic, Jc, x1, x2, x4, x5, x6⟩ := tx_1 (L := L) (xs := xs) (d := 17) (J := J) hG n1
        obtain ⟨Ir, Jr, w1, ⟨w30, w31, w32, w33⟩, w4, w5⟩ := tm_1 (L := L) (xs := xs) (d := 17) (I := I1) (J := J1) hG1 (by rw [a123, n2]; decide)
        obtain ⟨y1, y2⟩ := ev_det c1 (x1)
        obtain ⟨y3, y4⟩ := ev_det c2 (w1)
        have er1 := inj_rv y1
        have er2 := inj_rv y3
        have eI1 := inj_hI y2
        have eI2 := inj_hI y4
        have eJ1 := inj_hJ y2
        have eJ2 := inj_hJ y4
        refine ⟨by rw [er1, er2, a121 _ (by decide)]; exact n4.symm, ?_⟩
        have e121 : ∀ q, q < 100 → I2 121 q = if q < 25 then I 121 (50 + q) else I 121 q := by
          intro q hq
          rw [eI2, w5 q hq]
          by_cases hc : q < 25
          · rw [if_pos hc, if_pos hc, a121 _ (by omega)]
          · rw [if_neg hc, if_neg hc, a121 _ hq]
        rw [← eI1, ← eJ1] at x2 x4 x5 x6
        unfold lwR
        rw [f88, f882]
        have run : rnS 66 0 0 (I2 121 0) (I 88 0).toNatClampNeg (I 88 2).toNatClampNeg I2 J2 := rnS_m n7 m0' (rnEq_t k66 x2) (fun q hq => by rw [e121 _ (by omega), if_pos (by omega)]; exact congrArg (I 121) (by omega)) (by rw [eJ2, w30, a122]) (by rw [e121 0 (by omega), if_pos (by omega), n2]; exact n3)
        have oth0 : rnS 71 25 1 (I2 123 0) (I 88 0).toNatClampNeg (I 88 2).toNatClampNeg I2 J2 := rnS_m n7 t0 (rnEq_t k71 x4) (fun q hq => by rw [e121 _ (by omega), if_neg (by omega)]) (by rw [eJ2, w31, a122]) (by rw [eI2, w4 0, a123])
        have oth1 : rnS 76 50 2 (I2 123 1) (I 88 0).toNatClampNeg (I 88 2).toNatClampNeg I2 J2 := rnS_m n7 m0' (rnEq_t k76 x5) (fun q hq => by rw [e121 _ (by omega), if_neg (by omega)]) (by rw [eJ2, w32, a122]) (by rw [eI2, w4 1, a123])
        have oth2 : rnS 81 75 3 (I2 123 2) (I 88 0).toNatClampNeg (I 88 2).toNatClampNeg I2 J2 := rnS_m n7 t2 (rnEq_t k81 x6) (fun q hq => by rw [e121 _ (by omega), if_neg (by omega)]) (by rw [eJ2, w33, a122]) (by rw [eI2, w4 2, a123])
        exact ⟨run, oth0, oth1, oth2⟩
    · have m0' := t2
      rcases t2 with ⟨n1, n2⟩ | ⟨n1, n2, n3, n4, n5⟩
      · skip
        obtain ⟨y1, y2⟩ := ev_det c1 (tX_o2 hG (sA_2 hG) (by rw [n1]; decide))
        obtain ⟨y3, y4⟩ := ev_det c2 (tM_o2 hG1 (isl_2 hG1) (by rw [a123, n2]; decide))
        have er1 := inj_rv y1
        have er2 := inj_rv y3
        have eI1 := inj_hI y2
        have eI2 := inj_hI y4
        have eJ1 := inj_hJ y2
        have eJ2 := inj_hJ y4
        exact same (by rw [er1, er2]) eI1 eI2 eJ1 eJ2
      · obtain ⟨Ic, Jc, x1, x2, x4, x5, x6⟩ := tx_2 (L := L) (xs := xs) (d := 17) (J := J) hG n1
        obtain ⟨Ir, Jr, w1, ⟨w30, w31, w32, w33⟩, w4, w5⟩ := tm_2 (L := L) (xs := xs) (d := 17) (I := I1) (J := J1) hG1 (by rw [a123, n2]; decide)
        obtain ⟨y1, y2⟩ := ev_det c1 (x1)
        obtain ⟨y3, y4⟩ := ev_det c2 (w1)
        have er1 := inj_rv y1
        have er2 := inj_rv y3
        have eI1 := inj_hI y2
        have eI2 := inj_hI y4
        have eJ1 := inj_hJ y2
        have eJ2 := inj_hJ y4
        refine ⟨by rw [er1, er2, a121 _ (by decide)]; exact n4.symm, ?_⟩
        have e121 : ∀ q, q < 100 → I2 121 q = if q < 25 then I 121 (75 + q) else I 121 q := by
          intro q hq
          rw [eI2, w5 q hq]
          by_cases hc : q < 25
          · rw [if_pos hc, if_pos hc, a121 _ (by omega)]
          · rw [if_neg hc, if_neg hc, a121 _ hq]
        rw [← eI1, ← eJ1] at x2 x4 x5 x6
        unfold lwR
        rw [f88, f882]
        have run : rnS 66 0 0 (I2 121 0) (I 88 0).toNatClampNeg (I 88 2).toNatClampNeg I2 J2 := rnS_m n7 m0' (rnEq_t k66 x2) (fun q hq => by rw [e121 _ (by omega), if_pos (by omega)]; exact congrArg (I 121) (by omega)) (by rw [eJ2, w30, a122]) (by rw [e121 0 (by omega), if_pos (by omega), n2]; exact n3)
        have oth0 : rnS 71 25 1 (I2 123 0) (I 88 0).toNatClampNeg (I 88 2).toNatClampNeg I2 J2 := rnS_m n7 t0 (rnEq_t k71 x4) (fun q hq => by rw [e121 _ (by omega), if_neg (by omega)]) (by rw [eJ2, w31, a122]) (by rw [eI2, w4 0, a123])
        have oth1 : rnS 76 50 2 (I2 123 1) (I 88 0).toNatClampNeg (I 88 2).toNatClampNeg I2 J2 := rnS_m n7 t1 (rnEq_t k76 x5) (fun q hq => by rw [e121 _ (by omega), if_neg (by omega)]) (by rw [eJ2, w32, a122]) (by rw [eI2, w4 1, a123])
        have oth2 : rnS 81 75 3 (I2 123 2) (I 88 0).toNatClampNeg (I 88 2).toNatClampNeg I2 J2 := rnS_m n7 m0' (rnEq_t k81 x6) (fun q hq => by rw [e121 _ (by omega), if_neg (by omega)]) (by rw [eJ2, w33, a122]) (by rw [eI2, w4 2, a123])
        exact ⟨run, oth0, oth1, oth2⟩
  exact ⟨r1, r2, I1, I2, J1, J2, R1, R2, c1, c2, g1, g2, ⟨hT2, lwL_k f2 rfl (lwL_k f1 rfl hT.2.1), lwQ_k f2 rfl (lwQ_k f1 rfl hT.2.2.1), key.2⟩⟩
theorem sr_count {L : Nat} {xs : Nat → Int32} {I : Nat → Nat → Int32} {J : Nat → Nat → Int64} {R : Nat → Nat → Nat} (hg : aGood (124, I, J, R)) (hT : lwA I J R) (a1 : Int32) : ∃ (r1 r2 : Int32) (I1 I2 : Nat → Nat → Int32) (J1 J2 : Nat → Nat → Int64) (R1 R2 : Nat → Nat → Nat), xEv L xs 19 139 0 [.ref 0, .int a1] [] (124, I, J, R) (some (.int r1)) (124, I1, J1, R1) ∧ xEv L xs 19 236 0 [.ref 86, .int a1] [] (124, I1, J1, R1) (some (.int r2)) (124, I2, J2, R2) ∧ aGood (124, I1, J1, R1) ∧ aGood (124, I2, J2, R2) ∧ lwA I2 J2 R2 := by
  obtain ⟨r1, r2, I1, I2, J1, J2, R1, R2, c1, c2, g1, g2, hT2⟩ := sp_count (L := L) (xs := xs) hg hT.1 a1
  obtain ⟨r1', I1', J1', R1', c1', g1', f1, cs1, m1, q1⟩ := api (ol_533 527 (by decide)) (by decide) (L := L) (xs := xs) (d := 19) (vs := [.ref 0, .int a1]) (by decide) hg ⟨g0_r (by decide), g0_i (aw _).1 (aw _).2, rfl⟩ rfl
  obtain ⟨y1, z1⟩ := ev_det c1 c1'
  cases y1
  cases z1
  obtain ⟨r2', I2', J2', R2', c2', g2', f2, cs2, m2, q2⟩ := api (ol_533 528 (by decide)) (by decide) (L := L) (xs := xs) (d := 19) (vs := [.ref 86, .int a1]) (by decide) g1 ⟨g0_r (by decide), g0_i (aw _).1 (aw _).2, rfl⟩ rfl
  obtain ⟨y2, z2⟩ := ev_det c2 c2'
  cases y2
  cases z2
  have hV1 := lwV_k f1 rfl hT.1.2.1
  exact ⟨r1, r2, I1, I2, J1, J2, R1, R2, c1, c2, g1, g2, ⟨hT2, lwL_k f2 rfl (lwL_k f1 rfl hT.2.1), lwQ_k f2 rfl (lwQ_k f1 rfl hT.2.2.1), lwR_k f2 rfl rfl (np_7 hV1) (lwR_k f1 rfl rfl (np_7 hT.1.2.1) hT.2.2.2)⟩⟩
