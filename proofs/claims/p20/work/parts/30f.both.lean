theorem ck_1 {k m : Nat} : cKd k m = 1 ↔ k = 1 ∧ m ≤ 8 := by
  unfold cKd
  split <;> omega
theorem ck_2 {k m : Nat} : cKd k m = 2 ↔ k = 2 ∧ m ≤ 3 := by
  unfold cKd
  split <;> omega
theorem ck_3 {k m : Nat} : cKd k m = 3 ↔ k = 3 := by
  unfold cKd
  split <;> omega
theorem ck_0 {k m : Nat} : cKd k m = 0 ↔ k = 0 := by
  unfold cKd
  split <;> omega
theorem rs_1 {k m : Nat} : rSo k m = 1 ↔ k = 1 ∧ m ≤ 8 := by
  unfold rSo
  repeat' split
  all_goals omega
theorem rs_2 {k m : Nat} : rSo k m = 2 ↔ k = 2 ∧ m ≤ 3 := by
  unfold rSo
  repeat' split
  all_goals omega
theorem rs_3 {k m : Nat} : rSo k m = 3 ↔ k = 3 := by
  unfold rSo
  repeat' split
  all_goals omega
theorem rs_4 {k m : Nat} : rSo k m = 4 ↔ k = 0 := by
  unfold rSo
  repeat' split
  all_goals omega
theorem tok_w {b : Nat → Int32} {p st e : Nat} (h : isTok b p st 1 e) : 1 ≤ e - st ∧ isLt b st (e - st) := by
  obtain ⟨a1, a2, a3, -, -⟩ := h
  have a4 := a3 (Or.inl rfl)
  have hse : st < e := by
    refine Nat.lt_of_le_of_ne a4.1 (fun z => ?_)
    rw [← z] at a4
    exact a4.2.2 a2.symm
  exact ⟨by omega, fun i hi => kd_1.mp (a4.2.1 (st + i) (by omega) (by omega))⟩
theorem tok_n {b : Nat → Int32} {p st e : Nat} (h : isTok b p st 2 e) : 1 ≤ e - st ∧ ∀ i, i < e - st → 48 ≤ (b (st + i)).toInt ∧ (b (st + i)).toInt ≤ 57 := by
  obtain ⟨a1, a2, a3, -, -⟩ := h
  have a4 := a3 (Or.inr rfl)
  have hse : st < e := by
    refine Nat.lt_of_le_of_ne a4.1 (fun z => ?_)
    rw [← z] at a4
    exact a4.2.2 a2.symm
  exact ⟨by omega, fun i hi => kd_2.mp (a4.2.1 (st + i) (by omega) (by omega))⟩
theorem tok_prog {b : Nat → Int32} {p st k e : Nat} (h : isTok b p st k e) (hk : k ≠ 0) : p < e := by
  obtain ⟨a1, a2, a3, a4, a5⟩ := h
  have hl := a1.1
  have hkl := kd_le (b st).toInt
  have hne := a1.2.2
  rw [← a2] at hkl hne
  have hc : (k = 1 ∨ k = 2) ∨ (k = 3 ∨ k = 5) := by omega
  rcases hc with h | h
  · have a6 := a3 h
    have : st ≠ e := fun z => by rw [← z] at a6; exact a6.2.2 a2.symm
    have := a6.1
    omega
  · have := a5 h
    omega
/-- the reference's token -/
def rTok (b : Nat → Int32) (n : Nat) (I : Nat → Nat → Int32) (J : Nat → Nat → Int64) (st k e : Nat) : Prop := (I 86 2).toInt = n ∧ (I 86 6).toInt = e ∧ (I 86 3).toInt = rSo k (e - st) ∧ (I 86 5).toInt = st ∧ (k = 1 → J 86 10 = wF b st (e - st)) ∧ (k = 2 → I 86 7 = nF b st (e - st)) ∧ (rSo k (e - st) = 1 → ((∃ j : Nat, j < 6 ∧ (I 86 4).toInt = j ∧ isKw b st (e - st) j) ∨ ((I 86 4).toInt = -1 ∧ ∀ j : Nat, j < 6 → ¬ isKw b st (e - st) j))) ∧ bM I n = b ∧ e ≤ n ∧ st ≤ e
/-- heaps alike but for the token, the fault, what was got -/
def alM (I I' : Nat → Nat → Int32) (J J' : Nat → Nat → Int64) : Prop := (∀ c q, ¬ (c = 86 ∧ (q = 3 ∨ q = 4 ∨ q = 5 ∨ q = 6 ∨ q = 7 ∨ q = 8 ∨ q = 9 ∨ q = 11)) → I' c q = I c q) ∧ (∀ c q, ¬ (c = 86 ∧ q = 10) → J' c q = J c q)
theorem alM_r (I : Nat → Nat → Int32) (J : Nat → Nat → Int64) : alM I I J J := ⟨fun _ _ _ => rfl, fun _ _ _ => rfl⟩
theorem alM_t {I I' I2 : Nat → Nat → Int32} {J J' J2 : Nat → Nat → Int64} (h : alM I I' J J') (h' : alM I' I2 J' J2) : alM I I2 J J2 := ⟨fun c q hq => (h'.1 c q hq).trans (h.1 c q hq), fun c q hq => (h'.2 c q hq).trans (h.2 c q hq)⟩
theorem alM_S {I I' : Nat → Nat → Int32} {J J' : Nat → Nat → Int64} (h : alS I I' J J') : alM I I' J J' := ⟨fun c q hq => h.1 c q (fun z => hq ⟨z.1, by omega⟩), h.2⟩
theorem alM_I {I : Nat → Nat → Int32} {J : Nat → Nat → Int64} {k : Nat} (v : Int32) (h : k = 8 ∨ k = 9 ∨ k = 11) : alM I (uI I 86 k v) J J := ⟨fun c q hq => uI_n I v (fun z => hq ⟨z.1, by omega⟩), fun _ _ _ => rfl⟩
theorem alM_b {I I' : Nat → Nat → Int32} {J J' : Nat → Nat → Int64} (h : alM I I' J J') (n : Nat) : bM I' n = bM I n := by
  funext q
  unfold bM
  by_cases e : q < n
  · rw [if_pos e, if_pos e, h.1 87 q (fun z => absurd z.1 (by decide))]
  · rw [if_neg e, if_neg e]
/-- the first of m things of which eq holds, or -1 -/
def isIx (eq : Nat → Prop) (m : Nat) (z : Int) : Prop := (z = -1 ∧ ∀ i, i < m → ¬ eq i) ∨ (∃ i : Nat, i < m ∧ z = i ∧ eq i ∧ ∀ i', i' < i → ¬ eq i')
theorem isIx_u {eq eq' : Nat → Prop} {m : Nat} {z z' : Int} (h : isIx eq m z) (h' : isIx eq' m z') (he : ∀ i, i < m → (eq i ↔ eq' i)) : z = z' := by
  rcases h with ⟨a1, a2⟩ | ⟨i, a1, a2, a3, a4⟩
  · rcases h' with ⟨b1, b2⟩ | ⟨i', b1, b2, b3, b4⟩
    · omega
    · exact absurd ((he i' b1).mpr b3) (a2 i' b1)
  · rcases h' with ⟨b1, b2⟩ | ⟨i', b1, b2, b3, b4⟩
    · exact absurd ((he i a1).mp a3) (b2 i a1)
    · rcases Nat.lt_trichotomy i i' with h | h | h
      · exact absurd ((he i a1).mp a3) (b4 i h)
      · omega
      · exact absurd ((he i' b1).mpr b3) (a4 i' h)
section SR
variable {L : Nat} {xs : Nat → Int32} {d : Nat} {R : Nat → Nat → Nat} {b : Nat → Int32} {n p : Nat} {I : Nat → Nat → Int32} {J : Nat → Nat → Int64}
/-- scan, as a token -/
theorem sk_run (hG : aGd R) (h4 : 4 ≤ d + 1) (hn9 : n ≤ 900) (hn : (I 86 2).toInt = n) (hp : (I 86 6).toInt = p) (hpn : p ≤ n) (hb : bM I n = b) : ∃ (st k e : Nat) (I' : Nat → Nat → Int32) (J' : Nat → Nat → Int64), xEv L xs (d + 2) 150 0 [.ref 86, xmk, xmk, xmk] [] (124, I, J, R) none (124, I', J', R) ∧ isTok b p st k e ∧ rTok b n I' J' st k e ∧ alS I I' J J' := by
  obtain ⟨st, k, e, I', J', c1, a1, a2, a3, a4, a5, a6, a7, a8, a9, a10, a11⟩ := sm_run (L := L) (xs := xs) (d := d) (R := R) hG h4 hn9 (J := J) hn hp hpn
  rw [hb] at a1 a8 a9 a10
  exact ⟨st, k, e, I', J', c1, a1, ⟨by rw [a11.1 86 2 (by omega)]; exact hn, a5, a6, a7, a8, a9, a10, by rw [alS_b a11]; exact hb, a3, a4⟩, a11⟩
end SR
set_option maxRecDepth 20000 in
theorem nd_1 {L : Nat} {xs : Nat → Int32} {d : Nat} {I : Nat → Nat → Int32} {J : Nat → Nat → Int64} {R : Nat → Nat → Nat} {q : Int32} (hG : aGd R) (b1 : q.toInt ≥ (I 88 3).toInt) : xEv L xs d 158 2 [.ref 86, .int q] [] (124, I, J, R) (some (.int (-1))) (124, I, J, R) := by
  refine ev_go 2 (pc1 := 4) (lv1 := [.ref 86, .int q]) (st1 := [.ref 86, .int q]) (h1 := (124, I, J, R)) rfl ?_
  refine ev_gf (c := 86) (t := 88) (X := R 86 12) rfl rfl (fun _ => rfl) rfl (hG 86 12 88 rfl rfl) ?_
  refine ev_go 2 (pc1 := 9) (lv1 := [.ref 86, .int q]) (st1 := [.int (I 88 3), .int q]) (h1 := (124, I, J, R)) rfl ?_
  refine ev_br (b1 := true) rfl rfl (xcd_ge (x := q) (y := (I 88 3)) (by first | exact b1 | omega)) ?_
  refine ev_go 1 (pc1 := 35) (lv1 := [.ref 86, .int q]) (st1 := [.int (-1)]) (h1 := (124, I, J, R)) rfl ?_
  exact ev_ret rfl rfl
set_option maxRecDepth 20000 in
theorem nd_2 {L : Nat} {xs : Nat → Int32} {d : Nat} {I : Nat → Nat → Int32} {J : Nat → Nat → Int64} {R : Nat → Nat → Nat} {q : Int32} (hG : aGd R) (b1 : q.toInt < (I 88 3).toInt) (n1 : 0 ≤ q.toInt) (m1 : q.toInt < 7) (b2 : (lg_cmp (J 89 q.toNatClampNeg) (J 86 10)).toInt = 0) : xEv L xs d 158 2 [.ref 86, .int q] [] (124, I, J, R) (some (.int q)) (124, I, J, R) := by
  refine ev_go 2 (pc1 := 4) (lv1 := [.ref 86, .int q]) (st1 := [.ref 86, .int q]) (h1 := (124, I, J, R)) rfl ?_
  refine ev_gf (c := 86) (t := 88) (X := R 86 12) rfl rfl (fun _ => rfl) rfl (hG 86 12 88 rfl rfl) ?_
  refine ev_go 2 (pc1 := 9) (lv1 := [.ref 86, .int q]) (st1 := [.int (I 88 3), .int q]) (h1 := (124, I, J, R)) rfl ?_
  refine ev_br (b1 := false) rfl rfl (xcd_nge (x := q) (y := (I 88 3)) (by first | exact b1 | omega)) ?_
  refine ev_go 1 (pc1 := 13) (lv1 := [.ref 86, .int q]) (st1 := [.ref 86]) (h1 := (124, I, J, R)) rfl ?_
  refine ev_gf (c := 86) (t := 89) (X := R 86 13) rfl rfl (fun _ => rfl) rfl (hG 86 13 89 rfl rfl) ?_
  refine ev_go 1 (pc1 := 17) (lv1 := [.ref 86, .int q]) (st1 := [.int q, .ref 89]) (h1 := (124, I, J, R)) rfl ?_
  refine ev_lld (n := 7) rfl rfl (fun _ => rfl) n1 m1 ?_
  refine ev_go 3 (pc1 := 23) (lv1 := [.ref 86, .int q]) (st1 := [.int (lg_cmp (J 89 q.toNatClampNeg) (J 86 10))]) (h1 := (124, I, J, R)) rfl ?_
  refine ev_br (b1 := false) rfl rfl (xcd_nne (x := (lg_cmp (J 89 q.toNatClampNeg) (J 86 10))) (y := 0) (by rw [show ((0 : Int32)).toInt = 0 from by decide]; first | exact b2 | omega)) ?_
  refine ev_go 1 (pc1 := 27) (lv1 := [.ref 86, .int q]) (st1 := [.int q]) (h1 := (124, I, J, R)) rfl ?_
  exact ev_ret rfl rfl
set_option maxRecDepth 20000 in
theorem nd_3 {L : Nat} {xs : Nat → Int32} {d : Nat} {I : Nat → Nat → Int32} {J : Nat → Nat → Int64} {R : Nat → Nat → Nat} {q : Int32} (hG : aGd R) (b1 : q.toInt < (I 88 3).toInt) (n1 : 0 ≤ q.toInt) (m1 : q.toInt < 7) (b2 : (lg_cmp (J 89 q.toNatClampNeg) (J 86 10)).toInt ≠ 0) {v : Option Value} {h' : xH} (hk : xEv L xs d 158 2 [.ref 86, .int (q + 1)] [] (124, I, J, R) v h') : xEv L xs d 158 2 [.ref 86, .int q] [] (124, I, J, R) v h' := by
  refine ev_go 2 (pc1 := 4) (lv1 := [.ref 86, .int q]) (st1 := [.ref 86, .int q]) (h1 := (124, I, J, R)) rfl ?_
  refine ev_gf (c := 86) (t := 88) (X := R 86 12) rfl rfl (fun _ => rfl) rfl (hG 86 12 88 rfl rfl) ?_
  refine ev_go 2 (pc1 := 9) (lv1 := [.ref 86, .int q]) (st1 := [.int (I 88 3), .int q]) (h1 := (124, I, J, R)) rfl ?_
  refine ev_br (b1 := false) rfl rfl (xcd_nge (x := q) (y := (I 88 3)) (by first | exact b1 | omega)) ?_
  refine ev_go 1 (pc1 := 13) (lv1 := [.ref 86, .int q]) (st1 := [.ref 86]) (h1 := (124, I, J, R)) rfl ?_
  refine ev_gf (c := 86) (t := 89) (X := R 86 13) rfl rfl (fun _ => rfl) rfl (hG 86 13 89 rfl rfl) ?_
  refine ev_go 1 (pc1 := 17) (lv1 := [.ref 86, .int q]) (st1 := [.int q, .ref 89]) (h1 := (124, I, J, R)) rfl ?_
  refine ev_lld (n := 7) rfl rfl (fun _ => rfl) n1 m1 ?_
  refine ev_go 3 (pc1 := 23) (lv1 := [.ref 86, .int q]) (st1 := [.int (lg_cmp (J 89 q.toNatClampNeg) (J 86 10))]) (h1 := (124, I, J, R)) rfl ?_
  refine ev_br (b1 := true) rfl rfl (xcd_ne (x := (lg_cmp (J 89 q.toNatClampNeg) (J 86 10))) (y := 0) (by rw [show ((0 : Int32)).toInt = 0 from by decide]; first | exact b2 | omega)) ?_
  refine ev_go 2 (pc1 := 2) (lv1 := [.ref 86, .int (q + 1)]) (st1 := []) (h1 := (124, I, J, R)) rfl ?_
  exact hk
theorem lg_eq {x y : Int64} : (lg_cmp x y).toInt = 0 ↔ x = y := by
  unfold lg_cmp
  by_cases h1 : x > y
  · rw [if_pos h1]
    exact ⟨fun h => absurd h (by decide), fun h => absurd (Int64.lt_iff_toInt_lt.mp h1) (by rw [h]; omega)⟩
  · rw [if_neg h1]
    by_cases h2 : x = y
    · rw [if_pos h2]; exact ⟨fun _ => h2, fun _ => by decide⟩
    · rw [if_neg h2]; exact ⟨fun h => absurd h (by decide), fun h => absurd h h2⟩
section ND
variable {L : Nat} {xs : Nat → Int32} {d : Nat} {R : Nat → Nat → Nat} {I : Nat → Nat → Int32} {J : Nat → Nat → Int64}
theorem nd_l (hG : aGd R) {m : Nat} (hm : (I 88 3).toInt = m) (hm7 : m ≤ 7) : ∀ (f : Nat) (q : Int32) (Q : Nat), m - Q = f → q.toInt = Q → Q ≤ m → (∀ i, i < Q → J 89 i ≠ J 86 10) → ∃ z : Int32, xEv L xs d 158 2 [.ref 86, .int q] [] (124, I, J, R) (some (.int z)) (124, I, J, R) ∧ isIx (fun i => J 89 i = J 86 10) m z.toInt := by
  intro f
  induction f with
  | zero =>
    intro q Q hf hq hQ hl
    have e : Q = m := by omega
    subst e
    exact ⟨_, nd_1 hG (by omega), Or.inl ⟨by decide, hl⟩⟩
  | succ f ih =>
    intro q Q hf hq hQ hl
    have ei := i_add1 (x := q) (by omega)
    have ec := clamp_s (i := q) (by omega)
    have e : q.toNatClampNeg = Q := by omega
    by_cases hv : J 89 Q = J 86 10
    · exact ⟨q, nd_2 hG (by omega) (by omega) (by omega) (by rw [e]; exact lg_eq.mpr hv), Or.inr ⟨Q, by omega, hq, hv, hl⟩⟩
    · obtain ⟨z, z1, z2⟩ := ih (q + 1) (Q + 1) (by omega) (by omega) (by omega) (by
        intro i hi
        by_cases ei : i = Q
        · rw [ei]; exact hv
        · exact hl i (by omega))
      exact ⟨z, nd_3 hG (by omega) (by omega) (by omega) (by rw [e]; exact fun h => hv (lg_eq.mp h)) z1, z2⟩
theorem nd_run (hG : aGd R) {m : Nat} (hm : (I 88 3).toInt = m) (hm7 : m ≤ 7) : ∃ z : Int32, xEv L xs d 158 0 [.ref 86, xmk] [] (124, I, J, R) (some (.int z)) (124, I, J, R) ∧ isIx (fun i => J 89 i = J 86 10) m z.toInt := by
  obtain ⟨z, z1, z2⟩ := nd_l (L := L) (xs := xs) (d := d) (J := J) hG hm hm7 _ 0 0 rfl rfl (Nat.zero_le _) (fun i hi => by omega)
  exact ⟨z, ev_go 2 (pc1 := 2) (lv1 := [.ref 86, .int 0]) (st1 := []) (h1 := (124, I, J, R)) rfl z1, z2⟩
end ND
set_option maxRecDepth 20000 in
theorem ik_0 {L : Nat} {xs : Nat → Int32} {d : Nat} {I : Nat → Nat → Int32} {J : Nat → Nat → Int64} {R : Nat → Nat → Nat} {k : Int32} (hG : aGd R) (b1 : (I 86 3).toInt ≠ 1) : xEv L xs d 161 0 [.ref 86, .int k] [] (124, I, J, R) (some (.int 0)) (124, I, J, R) := by
  refine ev_go 3 (pc1 := 5) (lv1 := [.ref 86, .int k]) (st1 := [.int 1, .int (I 86 3)]) (h1 := (124, I, J, R)) rfl ?_
  refine ev_br (b1 := true) rfl rfl (xcd_ne (x := (I 86 3)) (y := 1) (by rw [show ((1 : Int32)).toInt = 1 from by decide]; first | exact b1 | omega)) ?_
  refine ev_go 1 (pc1 := 21) (lv1 := [.ref 86, .int k]) (st1 := [.int 0]) (h1 := (124, I, J, R)) rfl ?_
  exact ev_ret rfl rfl
set_option maxRecDepth 20000 in
theorem ik_1 {L : Nat} {xs : Nat → Int32} {d : Nat} {I : Nat → Nat → Int32} {J : Nat → Nat → Int64} {R : Nat → Nat → Nat} {k : Int32} (hG : aGd R) (b1 : (I 86 3).toInt = 1) (b2 : (I 86 4).toInt ≠ k.toInt) : xEv L xs d 161 0 [.ref 86, .int k] [] (124, I, J, R) (some (.int 0)) (124, I, J, R) := by
  refine ev_go 3 (pc1 := 5) (lv1 := [.ref 86, .int k]) (st1 := [.int 1, .int (I 86 3)]) (h1 := (124, I, J, R)) rfl ?_
  refine ev_br (b1 := false) rfl rfl (xcd_nne (x := (I 86 3)) (y := 1) (by rw [show ((1 : Int32)).toInt = 1 from by decide]; first | exact b1 | omega)) ?_
  refine ev_go 3 (pc1 := 13) (lv1 := [.ref 86, .int k]) (st1 := [.int k, .int (I 86 4)]) (h1 := (124, I, J, R)) rfl ?_
  refine ev_br (b1 := true) rfl rfl (xcd_ne (x := (I 86 4)) (y := k) (by first | exact b2 | omega)) ?_
  refine ev_go 1 (pc1 := 21) (lv1 := [.ref 86, .int k]) (st1 := [.int 0]) (h1 := (124, I, J, R)) rfl ?_
  exact ev_ret rfl rfl
set_option maxRecDepth 20000 in
theorem ik_2 {L : Nat} {xs : Nat → Int32} {d : Nat} {I : Nat → Nat → Int32} {J : Nat → Nat → Int64} {R : Nat → Nat → Nat} {k : Int32} (hG : aGd R) (b1 : (I 86 3).toInt = 1) (b2 : (I 86 4).toInt = k.toInt) : xEv L xs d 161 0 [.ref 86, .int k] [] (124, I, J, R) (some (.int 1)) (124, I, J, R) := by
  refine ev_go 3 (pc1 := 5) (lv1 := [.ref 86, .int k]) (st1 := [.int 1, .int (I 86 3)]) (h1 := (124, I, J, R)) rfl ?_
  refine ev_br (b1 := false) rfl rfl (xcd_nne (x := (I 86 3)) (y := 1) (by rw [show ((1 : Int32)).toInt = 1 from by decide]; first | exact b1 | omega)) ?_
  refine ev_go 3 (pc1 := 13) (lv1 := [.ref 86, .int k]) (st1 := [.int k, .int (I 86 4)]) (h1 := (124, I, J, R)) rfl ?_
  refine ev_br (b1 := false) rfl rfl (xcd_nne (x := (I 86 4)) (y := k) (by first | exact b2 | omega)) ?_
  refine ev_go 2 (pc1 := 21) (lv1 := [.ref 86, .int k]) (st1 := [.int 1]) (h1 := (124, I, J, R)) rfl ?_
  exact ev_ret rfl rfl
section RK
variable {L : Nat} {xs : Nat → Int32} {d : Nat} {R : Nat → Nat → Nat} {b : Nat → Int32} {n p : Nat} {I : Nat → Nat → Int32} {J : Nat → Nat → Int64}
theorem ik_run (hG : aGd R) {st k e : Nat} (ht : rTok b n I J st k e) {K : Int32} {j : Nat} (hK : K.toInt = j) (hj : j < 6) : ((rSo k (e - st) = 1 ∧ isKw b st (e - st) j) ∧ xEv L xs d 161 0 [.ref 86, .int K] [] (124, I, J, R) (some (.int 1)) (124, I, J, R)) ∨ (¬ (rSo k (e - st) = 1 ∧ isKw b st (e - st) j) ∧ xEv L xs d 161 0 [.ref 86, .int K] [] (124, I, J, R) (some (.int 0)) (124, I, J, R)) := by
  obtain ⟨t1, t2, t3, t4, t5, t6, t7, -⟩ := ht
  by_cases h1 : rSo k (e - st) = 1
  · by_cases h2 : (I 86 4).toInt = j
    · refine Or.inl ⟨⟨h1, ?_⟩, ik_2 hG (by omega) (by omega)⟩
      rcases t7 h1 with ⟨j', a1, a2, a3⟩ | ⟨a1, a2⟩
      · have : j' = j := by omega
        rw [← this]; exact a3
      · omega
    · refine Or.inr ⟨fun z => ?_, ik_1 hG (by omega) (by omega)⟩
      rcases t7 h1 with ⟨j', a1, a2, a3⟩ | ⟨a1, a2⟩
      · have huni : ∀ i, i < 6 → ∀ j, j < 6 → kwl i = kwl j → (∀ q, q < kwl i → kwc i q = kwc j q) → i = j := by decide +kernel
        have e1 : kwl j' = kwl j := a3.1.symm.trans z.2.1
        have := huni j' a1 j hj e1 (fun q hq => (a3.2 q hq).symm.trans (z.2.2 q (by omega)))
        omega
      · exact a2 j hj z.2
  · exact Or.inr ⟨fun z => h1 z.1, ik_0 hG (by omega)⟩
/-- readNumber of the reference, the token at hand -/
theorem mn_run (hG : aGd R) (h4 : 4 ≤ d + 1) (hn9 : n ≤ 900) {p st k e : Nat} (hk : isTok b p st k e) (ht : rTok b n I J st k e) (lo hi : Int32) : (rSo k (e - st) = 2 ∧ lo.toInt ≤ (nF b st (e - st)).toInt ∧ (nF b st (e - st)).toInt ≤ hi.toInt ∧ ∃ (st' k' e' : Nat) (I' : Nat → Nat → Int32) (J' : Nat → Nat → Int64), xEv L xs (d + 3) 159 0 [.ref 86, .int lo, .int hi] [] (124, I, J, R) (some (.int 1)) (124, I', J', R) ∧ isTok b e st' k' e' ∧ rTok b n I' J' st' k' e' ∧ I' 86 11 = nF b st (e - st) ∧ I' 86 8 = I 86 8 ∧ I' 86 9 = I 86 9 ∧ alM I I' J J') ∨ (∃ I' : Nat → Nat → Int32, xEv L xs (d + 3) 159 0 [.ref 86, .int lo, .int hi] [] (124, I, J, R) (some (.int 0)) (124, I', J, R) ∧ alM I I' J J ∧ (I' 86 9).toInt = st ∧ ((rSo k (e - st) ≠ 2 ∧ (I' 86 8).toInt = 1) ∨ (rSo k (e - st) = 2 ∧ ¬ (lo.toInt ≤ (nF b st (e - st)).toInt ∧ (nF b st (e - st)).toInt ≤ hi.toInt) ∧ (I' 86 8).toInt = 2))) := by
  obtain ⟨t1, t2, t3, t4, t5, t6, t7, t8, t9, t10⟩ := ht
  by_cases h2 : rSo k (e - st) = 2
  · have ek := (rs_2.mp h2).1
    have en := t6 ek
    rcases in_run (L := L) (xs := xs) (d := d + 2) (I := I) (J := J) hG (I 86 7) lo hi with ⟨c1, g1, g2⟩ | c1
    · left
      rw [en] at g1 g2
      have al : alM I (uI I 86 11 (I 86 7)) J J := alM_I _ (by decide)
      obtain ⟨st', k', e', I', J', c2, u1, u2, u3⟩ := sk_run (L := L) (xs := xs) (d := d) (R := R) (b := b) (n := n) (p := e) (I := uI I 86 11 (I 86 7)) (J := J) hG h4 hn9 t1 t2 t9 (by rw [alM_b al]; exact t8)
      refine ⟨h2, g1, g2, st', k', e', I', J', rn_c hG (by omega) c1 c2 hG, u1, u2, ?_, ?_, ?_, alM_t al (alM_S u3)⟩
      · rw [u3.1 86 11 (by omega)]
        exact en
      · rw [u3.1 86 8 (by omega)]; rfl
      · rw [u3.1 86 9 (by omega)]; rfl
    · right
      refine ⟨_, rn_b hG (by omega) c1 (fa_run hG), alM_t (alM_I _ (by decide)) (alM_I _ (by decide)), t4, Or.inr ⟨h2, ?_, rfl⟩⟩
      rintro ⟨g1, g2⟩
      rcases in_run (L := L) (xs := xs) (d := d + 2) (I := I) (J := J) hG (I 86 7) lo hi with ⟨c2, -, -⟩ | c2
      · have := (ev_det c1 c2).1
        injection this with h
        injection h with h
        exact absurd h (by decide)
      · have hin : xEv L xs (d + 2) 160 0 [.int (I 86 7), .int lo, .int hi] [] (124, I, J, R) (some (.int 1)) (124, I, J, R) := sg_in3 hG (by rw [en]; exact g1) (by rw [en]; exact g2)
        have := (ev_det hin c2).1
        injection this with h
        injection h with h
        exact absurd h (by decide)
  · right
    exact ⟨_, rn_a hG (by omega) (fa_run hG), alM_t (alM_I _ (by decide)) (alM_I _ (by decide)), t4, Or.inl ⟨h2, rfl⟩⟩
end RK
