def zu1 (w : zW) (mv : Nat → Bool) (n : Nat) : Nat := if n < zN w ∧ mv n = false then 1 else 0
/-- how many have not moved -/
def zun (w : zW) (mv : Nat → Bool) : Nat := zu1 w mv 0 + zu1 w mv 1 + zu1 w mv 2 + zu1 w mv 3
theorem zun_s {w : zW} (k4 : zN w ≤ 4) {mv : Nat → Bool} {n : Nat} (hn : n < zN w) (hm : mv n = false) : zun w (zj mv n) + 1 = zun w mv := by
  have a : zu1 w mv n = 1 := if_pos ⟨hn, hm⟩
  have b : zu1 w (zj mv n) n = 0 := if_neg (fun h => by rw [zj_n] at h; exact absurd h.2 (by decide))
  have o : ∀ k, k ≠ n → zu1 w (zj mv n) k = zu1 w mv k := fun k hk => by
    unfold zu1
    rw [zj_o hk]
  unfold zun
  match n, hn, a, b, o with
  | 0, _, a, b, o =>
    have o1 := o 1 (by omega)
    have o2 := o 2 (by omega)
    have o3 := o 3 (by omega)
    omega
  | 1, _, a, b, o =>
    have o1 := o 0 (by omega)
    have o2 := o 2 (by omega)
    have o3 := o 3 (by omega)
    omega
  | 2, _, a, b, o =>
    have o1 := o 0 (by omega)
    have o2 := o 1 (by omega)
    have o3 := o 3 (by omega)
    omega
  | 3, _, a, b, o =>
    have o1 := o 0 (by omega)
    have o2 := o 1 (by omega)
    have o3 := o 2 (by omega)
    omega
  | n + 4, h, _, _, _ => omega
theorem zun_p {w : zW} {mv : Nat → Bool} {n : Nat} (k4 : zN w ≤ 4) (hn : n < zN w) (hm : mv n = false) : 1 ≤ zun w mv := by
  have := zun_s k4 hn hm
  omega
/-- what is marked -/
def zMk (I I' : Nat → Nat → Int32) (D : Nat → Prop) : Prop := (∀ c k, c ≠ 113 → I' c k = I c k) ∧ ∀ y, y < 2401 → (D y → I' 113 y = 1) ∧ (¬ D y → I' 113 y = I 113 y)
/-- the greatest of what is seen -/
def zBs (V : Nat → Int) (I I' : Nat → Nat → Int32) (D : Nat → Prop) : Prop := (∀ c k, ¬ (c = 86 ∧ k = 46) → I' c k = I c k) ∧ (I 86 46).toInt ≤ (I' 86 46).toInt ∧ (∀ y, D y → V y ≤ (I' 86 46).toInt) ∧ ((I' 86 46).toInt = (I 86 46).toInt ∨ ∃ y, D y ∧ (I' 86 46).toInt = V y)
theorem zMk_c {I I' : Nat → Nat → Int32} {D D' : Nat → Prop} (h : zMk I I' D) (e : ∀ y, D y ↔ D' y) : zMk I I' D' :=
  ⟨h.1, fun y hy => ⟨fun g => (h.2 y hy).1 ((e y).mpr g), fun g => (h.2 y hy).2 (fun z => g ((e y).mp z))⟩⟩
theorem zBs_c {V : Nat → Int} {I I' : Nat → Nat → Int32} {D D' : Nat → Prop} (h : zBs V I I' D) (e : ∀ y, D y ↔ D' y) : zBs V I I' D' := by
  obtain ⟨h1, h2, h3, h4⟩ := h
  refine ⟨h1, h2, fun y g => h3 y ((e y).mpr g), ?_⟩
  rcases h4 with h4 | ⟨y, g1, g2⟩
  · exact Or.inl h4
  · exact Or.inr ⟨y, (e y).mp g1, g2⟩
theorem zMk_0 {I : Nat → Nat → Int32} {D : Nat → Prop} (e : ∀ y, ¬ D y) : zMk I I D := ⟨fun _ _ _ => rfl, fun y _ => ⟨fun g => absurd g (e y), fun _ => rfl⟩⟩
theorem zBs_0 {V : Nat → Int} {I : Nat → Nat → Int32} {D : Nat → Prop} (e : ∀ y, ¬ D y) : zBs V I I D := ⟨fun _ _ _ => rfl, Int.le_refl _, fun y g => absurd g (e y), Or.inl rfl⟩
theorem zMk_t {I I1 I2 : Nat → Nat → Int32} {D D' : Nat → Prop} (h : zMk I I1 D) (g : zMk I1 I2 D') : zMk I I2 (fun y => D y ∨ D' y) := by
  refine ⟨fun c k hc => (g.1 c k hc).trans (h.1 c k hc), fun y hy => ⟨fun z => ?_, fun z => ?_⟩⟩
  · by_cases q : D' y
    · exact (g.2 y hy).1 q
    · rcases z with z | z
      · exact ((g.2 y hy).2 q).trans ((h.2 y hy).1 z)
      · exact absurd z q
  · exact ((g.2 y hy).2 (fun q => z (Or.inr q))).trans ((h.2 y hy).2 (fun q => z (Or.inl q)))
theorem zBs_t {V : Nat → Int} {I I1 I2 : Nat → Nat → Int32} {D D' : Nat → Prop} (h : zBs V I I1 D) (g : zBs V I1 I2 D') : zBs V I I2 (fun y => D y ∨ D' y) := by
  obtain ⟨h1, h2, h3, h4⟩ := h
  obtain ⟨g1, g2, g3, g4⟩ := g
  refine ⟨fun c k hc => (g1 c k hc).trans (h1 c k hc), by omega, fun y z => ?_, ?_⟩
  · rcases z with z | z
    · have := h3 y z
      omega
    · exact g3 y z
  · rcases g4 with g4 | ⟨y, y1, y2⟩
    · rcases h4 with h4 | ⟨y, y1, y2⟩
      · exact Or.inl (g4.trans h4)
      · exact Or.inr ⟨y, Or.inl y1, g4.trans y2⟩
    · exact Or.inr ⟨y, Or.inr y1, y2⟩
/-- put and taken back -/
theorem zMk_p {I I1 : Nat → Nat → Int32} {D : Nat → Prop} {k : Nat} {q : Int32} (h : zMk (uI I 114 k q) I1 D) : zMk I (uI I1 114 k (I 114 k)) D := by
  refine ⟨fun c j hc => ?_, fun y hy => ⟨fun g => ?_, fun g => ?_⟩⟩
  · by_cases e : c = 114 ∧ j = k
    · rw [e.1, e.2, uI_s]
    · rw [uI_n _ _ e, h.1 c j hc, uI_n _ _ e]
  · rw [uI_n _ _ (by omega)]
    exact (h.2 y hy).1 g
  · rw [uI_n _ _ (by omega), (h.2 y hy).2 g, uI_n _ _ (by omega)]
theorem zBs_p {V : Nat → Int} {I I1 : Nat → Nat → Int32} {D : Nat → Prop} {k : Nat} {q : Int32} (h : zBs V (uI I 114 k q) I1 D) : zBs V I (uI I1 114 k (I 114 k)) D := by
  obtain ⟨h1, h2, h3, h4⟩ := h
  rw [uI_n _ _ (by omega)] at h2 h4
  refine ⟨fun c j hc => ?_, ?_, ?_, ?_⟩
  · by_cases e : c = 114 ∧ j = k
    · rw [e.1, e.2, uI_s]
    · rw [uI_n _ _ e, h1 c j hc, uI_n _ _ e]
  · rw [uI_n _ _ (by omega)]
    exact h2
  · rw [uI_n _ _ (by omega)]
    exact h3
  · rw [uI_n _ _ (by omega)]
    exact h4
theorem zpl_s {w : zW} (k4 : zN w ≤ 4) {I : Nat → Nat → Int32} {x k q : Nat} {z : Int32} (hp : zpl w I x) (hz : z.toInt = q) (q7 : q < 7) : zpl w (uI I 114 k z) (zs x k q) := by
  intro n hn
  rw [zs_d q7 (by omega)]
  by_cases e : n = k
  · rw [e, uI_s, if_pos rfl]
    exact hz
  · rw [uI_n _ _ (by omega), if_neg e]
    exact hp n hn
theorem zI_s {w : zW} {x k q : Nat} (hx : zI w x) (hk : k < zN w) (q7 : q < 7) : zI w (zs x k q) :=
  ⟨zs_lt q7, fun n hn hm => by rw [zs_d q7 hn, if_neg (by omega)]; exact hx.2 n hn hm⟩
theorem zvi_m {L : Nat} {xs : Nat → Int32} {d : Nat} {I : Nat → Nat → Int32} {J : Nat → Nat → Int64} {R : Nat → Nat → Nat} (hG : aGd R) {w : zW} (hK : zK w) (hr : zRf w I) {xN : Nat} (hx : zI w xN) (hp : zpl w I xN) (hM : (I 86 47).toInt ≠ 0) {t m : Int32} {tN : Nat} (ht : t.toInt = tN) (tl : tN < zT w) : ∃ (x : Int32) (I1 : Nat → Nat → Int32) (w4 : Value), x.toInt = xN ∧ zMk I I1 (fun y => y = xN) ∧ ∀ (v : Option Value) (h' : xH), xEv L xs (d + 1) 202 60 [.ref 86, .int t, .int m, .int x, w4, xmk, xmk] [] (124, I1, J, R) v h' → xEv L xs (d + 1) 202 0 [.ref 86, .int t, .int m, xmk, xmk, xmk, xmk] [] (124, I, J, R) v h' := by
  obtain ⟨x, c1, ex⟩ := zso_run (L := L) (xs := xs) (d := d) (I := I) (J := J) hG hK.1 hr hx hp
  have xl := hx.1
  have ec := clamp_s (i := x) (by omega)
  have ek : x.toNatClampNeg = xN := by omega
  refine ⟨x, uI I 113 xN 1, xmk, ex, ⟨fun c k hc => uI_c _ _ _ hc, fun y hy => ⟨fun g => by have g' : y = xN := g; rw [g', uI_s], fun g => uI_n _ _ (fun e => g e.2)⟩⟩, fun v h' hk => ?_⟩
  exact zta_m hG c1 hM (by omega) (by omega) (by rw [ek, show vp_nar .boolean 1 = 1 from by decide]; exact hk)
/-- telling all -/
theorem zta_run_m {L : Nat} {xs : Nat → Int32} {d : Nat} {J : Nat → Nat → Int64} {R : Nat → Nat → Nat} (hG : aGd R) {w : zW} (hK : zK w) {t : Int32} {tN : Nat} (ht : t.toInt = tN) (tl : tN < zT w) : ∀ (f : Nat) (xN : Nat) (mv : Nat → Bool) (m : Int32) (I : Nat → Nat → Int32), zun w mv ≤ f → (∀ n, n < 4 → tb m n = mv n) → zI w xN → zpl w I xN → zRf w I → ((I 86 47).toInt ≠ 0) → ∃ I' : Nat → Nat → Int32, xEv L xs (d + f + 3) 202 0 [.ref 86, .int t, .int m, xmk, xmk, xmk, xmk] [] (124, I, J, R) none (124, I', J, R) ∧ zMk I I' (zv w tN f xN mv) := by
  obtain ⟨ka, kb, kab, kap, kbp⟩ := zK_t hK tl
  have k4 := hK.1
  have k64 := hK.2.2.1
  intro f
  induction f with
  | zero =>
    intro xN mv m I hf hm hx hp hr hM
    obtain ⟨x, I1, w4, ex, hv, run⟩ := zvi_m (L := L) (xs := xs) (d := d + 2) (I := I) (J := J) (m := m) hG hK hr hx hp hM ht tl
    have hr1 : zRf w I1 := zRf_e hr (fun c k g1 g2 g3 => hv.1 c k (by omega))
    rcases zsu_run (L := L) (xs := xs) (d := d + 2) (I := I1) (J := J) hG hr1 k64 ht tl with ⟨gu, su⟩ | ⟨gu, su⟩
    rotate_left
    · exact ⟨I1, run _ _ (zta_0 hG su), hv⟩
    have lp : ∀ (j k : Nat) (i : Int32) (w5 w6 : Value), k + j = zN w → i.toInt = k → xEv L xs (d + 3) 202 72 [.ref 86, .int t, .int m, .int x, .int i, w5, w6] [] (124, I1, J, R) none (124, I1, J, R) := by
      intro j
      induction j with
      | zero =>
        intro k i w5 w6 hk ei
        exact zta_e hG (by rw [hr1.1.1]; omega)
      | succ j ih =>
        intro k i w5 w6 hk ei
        have ei' : (i + 1).toInt = (k + 1 : Nat) := by rw [i_add1 (by omega)]; omega
        rcases z1_tb (x := m) ei (by omega) with ⟨g1, g2⟩ | ⟨g1, g2⟩
        · exact zta_mv hG (by rw [hr1.1.1]; omega) (by omega) (by omega) g2 (ih (k + 1) (i + 1) _ _ (by omega) ei')
        · rw [hm k (by omega)] at g1
          have := zun_p k4 (show k < zN w by omega) g1
          omega
    exact ⟨I1, run _ _ (zta_1 hG su (lp (zN w) 0 0 _ _ (by omega) (by decide))), hv⟩
  | succ f ih =>
    intro xN mv m I hf hm hx hp hr hM
    obtain ⟨x, I1, w4, ex, hv, run⟩ := zvi_m (L := L) (xs := xs) (d := d + f + 3) (I := I) (J := J) (m := m) hG hK hr hx hp hM ht tl
    have hr1 : zRf w I1 := zRf_e hr (fun c k g1 g2 g3 => hv.1 c k (by omega))
    have hp1 : zpl w I1 xN := fun n hn => by rw [hv.1 114 n (by omega)]; exact hp n hn
    rcases zsu_run (L := L) (xs := xs) (d := d + f + 3) (I := I1) (J := J) hG hr1 k64 ht tl with ⟨gu, su⟩ | ⟨gu, su⟩
    rotate_left
    · refine ⟨I1, run _ _ (zta_0 hG su), zMk_c hv (fun y => ⟨fun h => Or.inl h, fun h => ?_⟩)⟩
      rcases h with h | ⟨h, -⟩
      · exact h
      · exact absurd h gu
    have lp : ∀ (j k : Nat) (i : Int32) (w5 w6 : Value) (Ik : Nat → Nat → Int32), k + j = zN w → i.toInt = k → zRf w Ik → zpl w Ik xN → ((Ik 86 47).toInt ≠ 0) → ∃ I' : Nat → Nat → Int32, xEv L xs (d + f + 4) 202 72 [.ref 86, .int t, .int m, .int x, .int i, w5, w6] [] (124, Ik, J, R) none (124, I', J, R) ∧ zMk Ik I' (fun y => ∃ n, k ≤ n ∧ zg w tN xN mv n ∧ zv w tN f (zs xN n (zw w tN (zd xN n))) (zj mv n) y) := by
      intro j
      induction j with
      | zero =>
        intro k i w5 w6 Ik hk ei hrk hpk hMk
        refine ⟨Ik, zta_e hG (by rw [hrk.1.1]; omega), zMk_0 (fun y h => ?_)⟩
        obtain ⟨n, h1, h2, -⟩ := h
        have := h2.1
        omega
      | succ j jh =>
        intro k i w5 w6 Ik hk ei hrk hpk hMk
        have kn : k < zN w := by omega
        have ei' : (i + 1).toInt = (k + 1 : Nat) := by rw [i_add1 (by omega)]; omega
        have ec := clamp_s (i := i) (by omega)
        have ek : i.toNatClampNeg = k := by omega
        have h88 := hrk.1.1
        have epk := hpk k kn
        have skip : ∀ w5' w6' : Value, ¬ zg w tN xN mv k → (∀ (h' : xH), xEv L xs (d + f + 4) 202 72 [.ref 86, .int t, .int m, .int x, .int (i + 1), w5', w6'] [] (124, Ik, J, R) none h' → xEv L xs (d + f + 4) 202 72 [.ref 86, .int t, .int m, .int x, .int i, w5, w6] [] (124, Ik, J, R) none h') → ∃ I' : Nat → Nat → Int32, xEv L xs (d + f + 4) 202 72 [.ref 86, .int t, .int m, .int x, .int i, w5, w6] [] (124, Ik, J, R) none (124, I', J, R) ∧ zMk Ik I' (fun y => ∃ n, k ≤ n ∧ zg w tN xN mv n ∧ zv w tN f (zs xN n (zw w tN (zd xN n))) (zj mv n) y) := by
          intro w5' w6' no go
          obtain ⟨I', z1, z2⟩ := jh (k + 1) (i + 1) w5' w6' Ik (by omega) ei' hrk hpk hMk
          refine ⟨I', go _ z1, zMk_c z2 (fun y => ⟨?_, ?_⟩)⟩
          · rintro ⟨n, a1, a2, a3⟩
            exact ⟨n, by omega, a2, a3⟩
          · rintro ⟨n, a1, a2, a3⟩
            by_cases e : n = k
            · rw [e] at a2
              exact absurd a2 no
            · exact ⟨n, by omega, a2, a3⟩
        rcases z1_tb (x := m) ei (by omega) with ⟨g1, g2⟩ | ⟨g1, g2⟩
        · rw [hm k (by omega)] at g1
          refine skip _ _ (fun h => ?_) (fun h' hk => zta_mv hG (by omega) (by omega) (by omega) g2 hk)
          have := h.2.1
          rw [g1] at this
          cases this
        rw [hm k (by omega)] at g1
        have mbx := zmb_run (L := L) (xs := xs) (d := d + f + 2) (I := Ik) (J := J) (q := Ik 114 k) hG hrk k64 ht tl epk
        obtain ⟨q, mb, mb2⟩ := mbx
        rcases mb2 with ⟨gm, eq⟩ | ⟨gA, gB, eq⟩
        rotate_left
        · refine skip (.int (Ik 114 k)) (.int q) (fun h => ?_) (fun h' hk => zta_no hG (by omega) (by omega) (by omega) g2 (by rw [ek]; exact mb) eq (by rw [ek]; exact hk))
          rcases h.2.2.1 with ⟨e, -⟩ | ⟨e, -⟩
          · exact gA e
          · exact gB e
        have ql : zw w tN (zd xN k) < 7 := zw_lt ka kb (zd_lt _ _)
        have qp : zw w tN (zd xN k) < zP w := by
          rcases gm with e | e
          · rw [e, zw_A]; exact kbp
          · rw [e, zw_B kab]; exact kap
        have p7 := hK.2.1
        have tq : zt w tN xN k ↔ zR w k (zw w tN (zd xN k)) = false := by
          unfold zt
          rcases gm with e | e
          · rw [e, zw_A]
            exact ⟨fun h => h.elim (fun h => h.2) (fun h => absurd h.1 kab), fun h => Or.inl ⟨rfl, h⟩⟩
          · rw [e, zw_B kab]
            exact ⟨fun h => h.elim (fun h => absurd h.1.symm kab) (fun h => h.2), fun h => Or.inr ⟨rfl, h⟩⟩
        rcases zib_run (L := L) (xs := xs) (d := d + f + 3) (I := Ik) (J := J) hG k4 hrk ei kn eq ql with ⟨gr, ib⟩ | ⟨gr, ib⟩
        · refine skip (.int (Ik 114 k)) (.int q) (fun h => ?_) (fun h' hk => zta_ba hG (by omega) (by omega) (by omega) g2 (by rw [ek]; exact mb) (by omega) ib (by rw [ek]; exact hk))
          have := tq.mp h.2.2.1
          rw [gr] at this
          cases this
        obtain ⟨hh, ha, eh⟩ := zha_run (L := L) (xs := xs) (d := d + f + 3) (I := Ik) (J := J) hG k4 hrk hpk eq
        have e90 := hrk.2.2.1 _ qp
        have ecq := clamp_s (i := q) (by omega)
        have ekq : q.toNatClampNeg = zw w tN (zd xN k) := by omega
        by_cases gh : zh w xN (zw w tN (zd xN k)) < zH w (zw w tN (zd xN k))
        rotate_left
        · exact skip (.int (Ik 114 k)) (.int q) (fun h => gh h.2.2.2) (fun h' hk => zta_fu hG (by omega) (by omega) (by omega) g2 (by rw [ek]; exact mb) (by omega) ib ha (by omega) (by omega) (by rw [ekq]; omega) (by rw [ek]; exact hk))
        have hg : zg w tN xN mv k := ⟨kn, g1, tq.mpr gr, gh⟩
        have un := zun_s k4 kn g1
        have em : ∀ n, n < 4 → tb (m ||| (1 <<< (i &&& 31))) n = zj mv k n := fun n hn => by
          rw [tb_or, tb_shl ei (by omega), hm n hn]
          rfl
        obtain ⟨I2, x1, x2⟩ := ih (zs xN k (zw w tN (zd xN k))) (zj mv k) (m ||| (1 <<< (i &&& 31))) (uI Ik 114 k q) (by omega) em (zI_s hx kn ql) (zpl_s k4 hpk eq ql) (zRf_e hrk (fun c n _ g2 _ => uI_n _ _ (by omega))) (by rw [uI_n _ _ (by omega)]; exact hMk)
        have x3 := zMk_p x2
        have f3 := x3.1
        obtain ⟨I', z1, z2⟩ := jh (k + 1) (i + 1) (.int (Ik 114 k)) (.int q) (uI I2 114 k (Ik 114 k)) (by omega) ei' (zRf_e hrk (fun c n g1 g2 g3 => f3 c n (by omega))) (fun n hn => by rw [f3 114 n (by omega)]; exact hpk n hn) (by rw [f3 86 47 (by omega)]; exact hMk)
        refine ⟨I', zta_go hG (by omega) (by omega) (by omega) g2 (by rw [ek]; exact mb) (by omega) ib ha (by omega) (by omega) (by rw [ekq]; omega) (by omega) (by omega) (by rw [ek]; exact x1) (by omega) (by omega) (by rw [ek]; exact z1), zMk_c (zMk_t x3 z2) (fun y => ⟨?_, ?_⟩)⟩
        · rintro (h | ⟨n, a1, a2, a3⟩)
          · exact ⟨k, Nat.le_refl _, hg, h⟩
          · exact ⟨n, by omega, a2, a3⟩
        · rintro ⟨n, a1, a2, a3⟩
          by_cases e : n = k
          · rw [e] at a3
            exact Or.inl a3
          · exact Or.inr ⟨n, by omega, a2, a3⟩
    obtain ⟨I', z1, z2⟩ := lp (zN w) 0 0 xmk xmk I1 (by omega) (by decide) hr1 hp1 (by rw [hv.1 86 47 (by omega)]; exact hM)
    refine ⟨I', run _ _ (zta_1 hG su z1), zMk_c (zMk_t hv z2) (fun y => ⟨?_, ?_⟩)⟩
    · rintro (h | ⟨n, -, a2, a3⟩)
      · exact Or.inl h
      · exact Or.inr ⟨gu, n, a2, a3⟩
    · rintro (h | ⟨-, n, a2, a3⟩)
      · exact Or.inl h
      · exact Or.inr ⟨n, Nat.zero_le _, a2, a3⟩
def zVt (w : zW) (t : Nat) (N : Nat → Int32) (y : Nat) : Int := zi w (t + 1) y + (N y).toInt
theorem zvi_b {L : Nat} {xs : Nat → Int32} {d : Nat} {I : Nat → Nat → Int32} {J : Nat → Nat → Int64} {R : Nat → Nat → Nat} (hG : aGd R) {w : zW} (hK : zK w) (hr : zRf w I) {xN : Nat} (hx : zI w xN) (hp : zpl w I xN) {N : Nat → Int32} (hN : ∀ y, zI w y → 0 ≤ (N y).toInt ∧ (N y).toInt ≤ 1000000) (hM : (I 86 47).toInt = 0 ∧ (∀ y, y < 2401 → I 111 y = N y)) {t m : Int32} {tN : Nat} (ht : t.toInt = tN) (tl : tN < zT w) : ∃ (x : Int32) (I1 : Nat → Nat → Int32) (w4 : Value), x.toInt = xN ∧ zBs (zVt w tN N) I I1 (fun y => y = xN) ∧ ∀ (v : Option Value) (h' : xH), xEv L xs (d + 1) 202 60 [.ref 86, .int t, .int m, .int x, w4, xmk, xmk] [] (124, I1, J, R) v h' → xEv L xs (d + 1) 202 0 [.ref 86, .int t, .int m, xmk, xmk, xmk, xmk] [] (124, I, J, R) v h' := by
  obtain ⟨x, c1, ex⟩ := zso_run (L := L) (xs := xs) (d := d) (I := I) (J := J) hG hK.1 hr hx hp
  have k64 := hK.2.2.1
  have xl := hx.1
  have ec := clamp_s (i := x) (by omega)
  have ek : x.toNatClampNeg = xN := by omega
  obtain ⟨a, c2, ea⟩ := zin_run (L := L) (xs := xs) (d := d) (I := I) (J := J) hG hK hr hp (b := t + 1) (bN := tN + 1) (by rw [i_add1 (by omega)]; omega)
  have ib := zi_b hK (tN + 1) xN
  have nb := hN xN hx
  have e111 := hM.2 xN xl
  have ev : (a + I 111 xN).toInt = zVt w tN N xN := by
    unfold zVt
    rw [i_add (by rw [e111]; omega) (by rw [e111]; omega), ea, e111]
  by_cases g : (a + I 111 xN).toInt ≤ (I 86 46).toInt
  · refine ⟨x, uI I 86 46 (I 86 46), .int (a + I 111 xN), ex, ⟨fun c k hc => uI_n _ _ hc, by rw [uI_s]; exact Int.le_refl _, fun y hy => by have hy' : y = xN := hy; rw [uI_s, hy', ← ev]; exact g, Or.inl (by rw [uI_s])⟩, fun v h' hk => ?_⟩
    exact zta_a hG c1 hM.1 c2 (by omega) (by omega) (by rw [ek]; exact g) (by rw [ek]; exact hk)
  · refine ⟨x, uI I 86 46 (a + I 111 xN), .int (a + I 111 xN), ex, ⟨fun c k hc => uI_n _ _ hc, by rw [uI_s]; omega, fun y hy => by have hy' : y = xN := hy; rw [uI_s, hy', ← ev]; exact Int.le_refl _, Or.inr ⟨xN, rfl, by rw [uI_s]; exact ev⟩⟩, fun v h' hk => ?_⟩
    exact zta_b hG c1 hM.1 c2 (by omega) (by omega) (by rw [ek]; omega) (by rw [ek]; exact hk)
/-- telling all -/
theorem zta_run_b {L : Nat} {xs : Nat → Int32} {d : Nat} {J : Nat → Nat → Int64} {R : Nat → Nat → Nat} (hG : aGd R) {w : zW} (hK : zK w) {N : Nat → Int32} (hN : ∀ y, zI w y → 0 ≤ (N y).toInt ∧ (N y).toInt ≤ 1000000) {t : Int32} {tN : Nat} (ht : t.toInt = tN) (tl : tN < zT w) : ∀ (f : Nat) (xN : Nat) (mv : Nat → Bool) (m : Int32) (I : Nat → Nat → Int32), zun w mv ≤ f → (∀ n, n < 4 → tb m n = mv n) → zI w xN → zpl w I xN → zRf w I → ((I 86 47).toInt = 0 ∧ (∀ y, y < 2401 → I 111 y = N y)) → ∃ I' : Nat → Nat → Int32, xEv L xs (d + f + 3) 202 0 [.ref 86, .int t, .int m, xmk, xmk, xmk, xmk] [] (124, I, J, R) none (124, I', J, R) ∧ zBs (zVt w tN N) I I' (zv w tN f xN mv) := by
  obtain ⟨ka, kb, kab, kap, kbp⟩ := zK_t hK tl
  have k4 := hK.1
  have k64 := hK.2.2.1
  intro f
  induction f with
  | zero =>
    intro xN mv m I hf hm hx hp hr hM
    obtain ⟨x, I1, w4, ex, hv, run⟩ := zvi_b (L := L) (xs := xs) (d := d + 2) (I := I) (J := J) (m := m) hG hK hr hx hp hN hM ht tl
    have hr1 : zRf w I1 := zRf_e hr (fun c k g1 g2 g3 => hv.1 c k (by omega))
    rcases zsu_run (L := L) (xs := xs) (d := d + 2) (I := I1) (J := J) hG hr1 k64 ht tl with ⟨gu, su⟩ | ⟨gu, su⟩
    rotate_left
    · exact ⟨I1, run _ _ (zta_0 hG su), hv⟩
    have lp : ∀ (j k : Nat) (i : Int32) (w5 w6 : Value), k + j = zN w → i.toInt = k → xEv L xs (d + 3) 202 72 [.ref 86, .int t, .int m, .int x, .int i, w5, w6] [] (124, I1, J, R) none (124, I1, J, R) := by
      intro j
      induction j with
      | zero =>
        intro k i w5 w6 hk ei
        exact zta_e hG (by rw [hr1.1.1]; omega)
      | succ j ih =>
        intro k i w5 w6 hk ei
        have ei' : (i + 1).toInt = (k + 1 : Nat) := by rw [i_add1 (by omega)]; omega
        rcases z1_tb (x := m) ei (by omega) with ⟨g1, g2⟩ | ⟨g1, g2⟩
        · exact zta_mv hG (by rw [hr1.1.1]; omega) (by omega) (by omega) g2 (ih (k + 1) (i + 1) _ _ (by omega) ei')
        · rw [hm k (by omega)] at g1
          have := zun_p k4 (show k < zN w by omega) g1
          omega
    exact ⟨I1, run _ _ (zta_1 hG su (lp (zN w) 0 0 _ _ (by omega) (by decide))), hv⟩
  | succ f ih =>
    intro xN mv m I hf hm hx hp hr hM
    obtain ⟨x, I1, w4, ex, hv, run⟩ := zvi_b (L := L) (xs := xs) (d := d + f + 3) (I := I) (J := J) (m := m) hG hK hr hx hp hN hM ht tl
    have hr1 : zRf w I1 := zRf_e hr (fun c k g1 g2 g3 => hv.1 c k (by omega))
    have hp1 : zpl w I1 xN := fun n hn => by rw [hv.1 114 n (by omega)]; exact hp n hn
    rcases zsu_run (L := L) (xs := xs) (d := d + f + 3) (I := I1) (J := J) hG hr1 k64 ht tl with ⟨gu, su⟩ | ⟨gu, su⟩
    rotate_left
    · refine ⟨I1, run _ _ (zta_0 hG su), zBs_c hv (fun y => ⟨fun h => Or.inl h, fun h => ?_⟩)⟩
      rcases h with h | ⟨h, -⟩
      · exact h
      · exact absurd h gu
    have lp : ∀ (j k : Nat) (i : Int32) (w5 w6 : Value) (Ik : Nat → Nat → Int32), k + j = zN w → i.toInt = k → zRf w Ik → zpl w Ik xN → ((Ik 86 47).toInt = 0 ∧ (∀ y, y < 2401 → Ik 111 y = N y)) → ∃ I' : Nat → Nat → Int32, xEv L xs (d + f + 4) 202 72 [.ref 86, .int t, .int m, .int x, .int i, w5, w6] [] (124, Ik, J, R) none (124, I', J, R) ∧ zBs (zVt w tN N) Ik I' (fun y => ∃ n, k ≤ n ∧ zg w tN xN mv n ∧ zv w tN f (zs xN n (zw w tN (zd xN n))) (zj mv n) y) := by
      intro j
      induction j with
      | zero =>
        intro k i w5 w6 Ik hk ei hrk hpk hMk
        refine ⟨Ik, zta_e hG (by rw [hrk.1.1]; omega), zBs_0 (fun y h => ?_)⟩
        obtain ⟨n, h1, h2, -⟩ := h
        have := h2.1
        omega
      | succ j jh =>
        intro k i w5 w6 Ik hk ei hrk hpk hMk
        have kn : k < zN w := by omega
        have ei' : (i + 1).toInt = (k + 1 : Nat) := by rw [i_add1 (by omega)]; omega
        have ec := clamp_s (i := i) (by omega)
        have ek : i.toNatClampNeg = k := by omega
        have h88 := hrk.1.1
        have epk := hpk k kn
        have skip : ∀ w5' w6' : Value, ¬ zg w tN xN mv k → (∀ (h' : xH), xEv L xs (d + f + 4) 202 72 [.ref 86, .int t, .int m, .int x, .int (i + 1), w5', w6'] [] (124, Ik, J, R) none h' → xEv L xs (d + f + 4) 202 72 [.ref 86, .int t, .int m, .int x, .int i, w5, w6] [] (124, Ik, J, R) none h') → ∃ I' : Nat → Nat → Int32, xEv L xs (d + f + 4) 202 72 [.ref 86, .int t, .int m, .int x, .int i, w5, w6] [] (124, Ik, J, R) none (124, I', J, R) ∧ zBs (zVt w tN N) Ik I' (fun y => ∃ n, k ≤ n ∧ zg w tN xN mv n ∧ zv w tN f (zs xN n (zw w tN (zd xN n))) (zj mv n) y) := by
          intro w5' w6' no go
          obtain ⟨I', z1, z2⟩ := jh (k + 1) (i + 1) w5' w6' Ik (by omega) ei' hrk hpk hMk
          refine ⟨I', go _ z1, zBs_c z2 (fun y => ⟨?_, ?_⟩)⟩
          · rintro ⟨n, a1, a2, a3⟩
            exact ⟨n, by omega, a2, a3⟩
          · rintro ⟨n, a1, a2, a3⟩
            by_cases e : n = k
            · rw [e] at a2
              exact absurd a2 no
            · exact ⟨n, by omega, a2, a3⟩
        rcases z1_tb (x := m) ei (by omega) with ⟨g1, g2⟩ | ⟨g1, g2⟩
        · rw [hm k (by omega)] at g1
          refine skip _ _ (fun h => ?_) (fun h' hk => zta_mv hG (by omega) (by omega) (by omega) g2 hk)
          have := h.2.1
          rw [g1] at this
          cases this
        rw [hm k (by omega)] at g1
        have mbx := zmb_run (L := L) (xs := xs) (d := d + f + 2) (I := Ik) (J := J) (q := Ik 114 k) hG hrk k64 ht tl epk
        obtain ⟨q, mb, mb2⟩ := mbx
        rcases mb2 with ⟨gm, eq⟩ | ⟨gA, gB, eq⟩
        rotate_left
        · refine skip (.int (Ik 114 k)) (.int q) (fun h => ?_) (fun h' hk => zta_no hG (by omega) (by omega) (by omega) g2 (by rw [ek]; exact mb) eq (by rw [ek]; exact hk))
          rcases h.2.2.1 with ⟨e, -⟩ | ⟨e, -⟩
          · exact gA e
          · exact gB e
        have ql : zw w tN (zd xN k) < 7 := zw_lt ka kb (zd_lt _ _)
        have qp : zw w tN (zd xN k) < zP w := by
          rcases gm with e | e
          · rw [e, zw_A]; exact kbp
          · rw [e, zw_B kab]; exact kap
        have p7 := hK.2.1
        have tq : zt w tN xN k ↔ zR w k (zw w tN (zd xN k)) = false := by
          unfold zt
          rcases gm with e | e
          · rw [e, zw_A]
            exact ⟨fun h => h.elim (fun h => h.2) (fun h => absurd h.1 kab), fun h => Or.inl ⟨rfl, h⟩⟩
          · rw [e, zw_B kab]
            exact ⟨fun h => h.elim (fun h => absurd h.1.symm kab) (fun h => h.2), fun h => Or.inr ⟨rfl, h⟩⟩
        rcases zib_run (L := L) (xs := xs) (d := d + f + 3) (I := Ik) (J := J) hG k4 hrk ei kn eq ql with ⟨gr, ib⟩ | ⟨gr, ib⟩
        · refine skip (.int (Ik 114 k)) (.int q) (fun h => ?_) (fun h' hk => zta_ba hG (by omega) (by omega) (by omega) g2 (by rw [ek]; exact mb) (by omega) ib (by rw [ek]; exact hk))
          have := tq.mp h.2.2.1
          rw [gr] at this
          cases this
        obtain ⟨hh, ha, eh⟩ := zha_run (L := L) (xs := xs) (d := d + f + 3) (I := Ik) (J := J) hG k4 hrk hpk eq
        have e90 := hrk.2.2.1 _ qp
        have ecq := clamp_s (i := q) (by omega)
        have ekq : q.toNatClampNeg = zw w tN (zd xN k) := by omega
        by_cases gh : zh w xN (zw w tN (zd xN k)) < zH w (zw w tN (zd xN k))
        rotate_left
        · exact skip (.int (Ik 114 k)) (.int q) (fun h => gh h.2.2.2) (fun h' hk => zta_fu hG (by omega) (by omega) (by omega) g2 (by rw [ek]; exact mb) (by omega) ib ha (by omega) (by omega) (by rw [ekq]; omega) (by rw [ek]; exact hk))
        have hg : zg w tN xN mv k := ⟨kn, g1, tq.mpr gr, gh⟩
        have un := zun_s k4 kn g1
        have em : ∀ n, n < 4 → tb (m ||| (1 <<< (i &&& 31))) n = zj mv k n := fun n hn => by
          rw [tb_or, tb_shl ei (by omega), hm n hn]
          rfl
        obtain ⟨I2, x1, x2⟩ := ih (zs xN k (zw w tN (zd xN k))) (zj mv k) (m ||| (1 <<< (i &&& 31))) (uI Ik 114 k q) (by omega) em (zI_s hx kn ql) (zpl_s k4 hpk eq ql) (zRf_e hrk (fun c n _ g2 _ => uI_n _ _ (by omega))) ⟨by rw [uI_n _ _ (by omega)]; exact hMk.1, fun y hy => by rw [uI_n _ _ (by omega)]; exact hMk.2 y hy⟩
        have x3 := zBs_p x2
        have f3 := x3.1
        obtain ⟨I', z1, z2⟩ := jh (k + 1) (i + 1) (.int (Ik 114 k)) (.int q) (uI I2 114 k (Ik 114 k)) (by omega) ei' (zRf_e hrk (fun c n g1 g2 g3 => f3 c n (by omega))) (fun n hn => by rw [f3 114 n (by omega)]; exact hpk n hn) ⟨by rw [f3 86 47 (by omega)]; exact hMk.1, fun y hy => by rw [f3 111 y (by omega)]; exact hMk.2 y hy⟩
        refine ⟨I', zta_go hG (by omega) (by omega) (by omega) g2 (by rw [ek]; exact mb) (by omega) ib ha (by omega) (by omega) (by rw [ekq]; omega) (by omega) (by omega) (by rw [ek]; exact x1) (by omega) (by omega) (by rw [ek]; exact z1), zBs_c (zBs_t x3 z2) (fun y => ⟨?_, ?_⟩)⟩
        · rintro (h | ⟨n, a1, a2, a3⟩)
          · exact ⟨k, Nat.le_refl _, hg, h⟩
          · exact ⟨n, by omega, a2, a3⟩
        · rintro ⟨n, a1, a2, a3⟩
          by_cases e : n = k
          · rw [e] at a3
            exact Or.inl a3
          · exact Or.inr ⟨n, by omega, a2, a3⟩
    obtain ⟨I', z1, z2⟩ := lp (zN w) 0 0 xmk xmk I1 (by omega) (by decide) hr1 hp1 ⟨by rw [hv.1 86 47 (by omega)]; exact hM.1, fun y hy => by rw [hv.1 111 y (by omega)]; exact hM.2 y hy⟩
    refine ⟨I', run _ _ (zta_1 hG su z1), zBs_c (zBs_t hv z2) (fun y => ⟨?_, ?_⟩)⟩
    · rintro (h | ⟨n, -, a2, a3⟩)
      · exact Or.inl h
      · exact Or.inr ⟨gu, n, a2, a3⟩
    · rintro (h | ⟨-, n, a2, a3⟩)
      · exact Or.inl h
      · exact Or.inr ⟨n, Nat.zero_le _, a2, a3⟩
