theorem c1_kd : ∀ k : Nat, k < 24 → ∀ d : Nat, d < 5 → c1 (k : Int) (24 * d) = d := by decide +kernel
theorem cOut_d {f : Nat → Int} {d : Nat} (hd : d < 5) : ∀ M, (∀ k, k < M → 0 ≤ f k ∧ f k ≤ 23) → cOut f M (24 * d) = d * M
  | 0, _ => by rw [cOut_0, Nat.mul_zero]
  | M + 1, h => by
    obtain ⟨h1, h2⟩ := h M (Nat.lt_succ_self M)
    obtain ⟨k, hk⟩ := Int.eq_ofNat_of_zero_le h1
    rw [cOut_s, cOut_d hd M (fun i hi => h i (by omega)), hk, c1_kd k (by omega) d hd, Nat.mul_succ]
theorem tOut_i {f : Nat → Int} {M : Nat} : ∀ (U t a b : Nat), (tOut f M U)[t]? = some (a, b) → cOut f M a ≤ t ∧ t < cOut f M (a + 1) ∧ a < U
  | 0, t, a, b, h => by
    have h : ([] : List (Nat × Nat))[t]? = some (a, b) := h
    simp at h
  | U + 1, t, a, b, h => by
    have h : (tOut f M U ++ tIn f U M)[t]? = some (a, b) := h
    rw [List.getElem?_append] at h
    split at h
    · obtain ⟨h1, h2, h3⟩ := tOut_i U t a b h
      exact ⟨h1, h2, by omega⟩
    · rename_i g
      have e : a = U := (tIn_f M (a, b) (List.mem_of_getElem? h)).1
      obtain ⟨l, -⟩ := List.getElem?_eq_some_iff.mp h
      rw [tOut_l] at g l
      rw [tIn_l] at l
      have c : cOut f M (U + 1) = cOut f M U + cIn f ((U % 24 : Nat) : Int) M := rfl
      subst e
      exact ⟨by omega, by omega, by omega⟩
/-- which day a time is of -/
theorem tOut_day {f : Nat → Int} {M : Nat} (hf : ∀ k, k < M → 0 ≤ f k ∧ f k ≤ 23) {t a b : Nat} (h : (tOut f M 96)[t]? = some (a, b)) : a / 24 = t / M ∧ 0 < M := by
  obtain ⟨h1, h2, h3⟩ := tOut_i 96 t a b h
  obtain ⟨d, hd⟩ : ∃ d, a / 24 = d := ⟨_, rfl⟩
  have d4 : d < 4 := by omega
  have m1 := cOut_m f M (24 * d) (a - 24 * d)
  rw [Nat.add_sub_of_le (by omega), cOut_d (by omega) M hf] at m1
  have m2 := cOut_m f M (a + 1) (24 * (d + 1) - (a + 1))
  rw [Nat.add_sub_of_le (by omega), cOut_d (by omega) M hf] at m2
  have lo : d * M ≤ t := Nat.le_trans m1 h1
  have hi : t < (d + 1) * M := Nat.lt_of_lt_of_le h2 m2
  refine ⟨by rw [hd]; exact (Nat.div_eq_of_lt_le lo hi).symm, ?_⟩
  cases M with
  | zero => rw [Nat.mul_zero] at hi; omega
  | succ M => exact Nat.succ_pos M
theorem nx_day {t M : Nat} (hM : 0 < M) : (t + 1) % M = 0 ↔ (t + 1) / M ≠ t / M := by
  have h1 := Nat.div_add_mod t M
  have h2 := Nat.mod_lt t hM
  have h3 := Nat.div_add_mod (t + 1) M
  obtain ⟨q, hq⟩ : ∃ q, t / M = q := ⟨_, rfl⟩
  obtain ⟨r, hr⟩ : ∃ r, t % M = r := ⟨_, rfl⟩
  rw [hq, hr] at h1
  rw [hr] at h2
  rw [hq]
  by_cases e : r + 1 = M
  · have x : (t + 1) / M = q + 1 := Nat.div_eq_of_lt_le (by rw [Nat.mul_comm, Nat.mul_succ]; omega) (by rw [Nat.mul_comm, Nat.mul_succ, Nat.mul_succ]; omega)
    rw [x, Nat.mul_succ] at h3
    rw [x]
    exact ⟨fun _ => by omega, fun _ => by omega⟩
  · have x : (t + 1) / M = q := Nat.div_eq_of_lt_le (by rw [Nat.mul_comm]; omega) (by rw [Nat.mul_comm, Nat.mul_succ]; omega)
    rw [x] at h3
    rw [x]
    exact ⟨fun _ => by omega, fun h => absurd rfl h⟩
theorem tOut_len {f : Nat → Int} {M : Nat} (hf : ∀ k, k < M → 0 ≤ f k ∧ f k ≤ 23) : (tOut f M 96).length = 4 * M := by
  rw [tOut_l]
  exact cOut_d (d := 4) (by decide) M hf
theorem pcF_tb {f : Nat → Int32} {q : Int32} : ∀ n, n ≤ 31 → ∀ k, tb (pcF f q n) k = (decide (k < n) && decide (f k = q)) := by
  intro n
  induction n with
  | zero =>
    intro _ k
    have e : pcF f q 0 = 0 := rfl
    rw [e, tb_0, decide_eq_false (Nat.not_lt_zero k), Bool.false_and]
  | succ n ih =>
    intro hn k
    have i := ih (by omega) k
    rw [pcF_s]
    by_cases g : f n = q
    · have ek : (Int32.ofNat n).toInt = n := Int32.toInt_ofNat_of_lt (by omega)
      rw [if_pos g, tb_or, i, tb_shl ek (by omega)]
      by_cases e : k = n
      · rw [decide_eq_true e, decide_eq_true (show k < n + 1 by omega), e, decide_eq_true g, Bool.or_true]
        rfl
      · rw [decide_eq_false e, Bool.or_false, show decide (k < n + 1) = decide (k < n) from decide_eq_decide.mpr (by omega)]
    · rw [if_neg g, i]
      by_cases e : k = n
      · rw [e, decide_eq_false g, Bool.and_false, Bool.and_false]
      · rw [show decide (k < n + 1) = decide (k < n) from decide_eq_decide.mpr (by omega)]
set_option maxRecDepth 20000 in
theorem ul_n_3 {L : Nat} {xs : Nat → Int32} {d : Nat} {I : Nat → Nat → Int32} {J : Nat → Nat → Int64} {R : Nat → Nat → Nat} {t : Int32} (hG : aGd R) (b1 : (I 3 15).toInt > 0) (n1 : (I 3 15) ≠ 0) (b2 : ((t + 1) - (t + 1) / (I 3 15) * (I 3 15)).toInt ≠ 0) : xEv L xs d 130 0 [.ref 3, .int t] [] (124, I, J, R) (some (.int 0)) (124, I, J, R) := by
  refine ev_go 2 (pc1 := 4) (lv1 := [.ref 3, .int t]) (st1 := [.int (I 3 15)]) (h1 := (124, I, J, R)) rfl ?_
  refine ev_br (b1 := false) rfl rfl (xcd_nle (x := (I 3 15)) (y := 0) (by rw [show ((0 : Int32)).toInt = 0 from by decide]; first | exact b1 | omega)) ?_
  refine ev_go 5 (pc1 := 14) (lv1 := [.ref 3, .int t]) (st1 := [.int (I 3 15), .int (t + 1)]) (h1 := (124, I, J, R)) rfl ?_
  refine ev_rem rfl rfl n1 ?_
  refine ev_br (b1 := true) rfl rfl (xcd_ne (x := ((t + 1) - (t + 1) / (I 3 15) * (I 3 15))) (y := 0) (by rw [show ((0 : Int32)).toInt = 0 from by decide]; first | exact b2 | omega)) ?_
  refine ev_go 1 (pc1 := 23) (lv1 := [.ref 3, .int t]) (st1 := [.int 0]) (h1 := (124, I, J, R)) rfl ?_
  exact ev_ret rfl rfl
set_option maxRecDepth 20000 in
theorem ul_y_3 {L : Nat} {xs : Nat → Int32} {d : Nat} {I : Nat → Nat → Int32} {J : Nat → Nat → Int64} {R : Nat → Nat → Nat} {t : Int32} (hG : aGd R) (b1 : (I 3 15).toInt > 0) (n1 : (I 3 15) ≠ 0) (b2 : ((t + 1) - (t + 1) / (I 3 15) * (I 3 15)).toInt = 0) : xEv L xs d 130 0 [.ref 3, .int t] [] (124, I, J, R) (some (.int 1)) (124, I, J, R) := by
  refine ev_go 2 (pc1 := 4) (lv1 := [.ref 3, .int t]) (st1 := [.int (I 3 15)]) (h1 := (124, I, J, R)) rfl ?_
  refine ev_br (b1 := false) rfl rfl (xcd_nle (x := (I 3 15)) (y := 0) (by rw [show ((0 : Int32)).toInt = 0 from by decide]; first | exact b1 | omega)) ?_
  refine ev_go 5 (pc1 := 14) (lv1 := [.ref 3, .int t]) (st1 := [.int (I 3 15), .int (t + 1)]) (h1 := (124, I, J, R)) rfl ?_
  refine ev_rem rfl rfl n1 ?_
  refine ev_br (b1 := false) rfl rfl (xcd_nne (x := ((t + 1) - (t + 1) / (I 3 15) * (I 3 15))) (y := 0) (by rw [show ((0 : Int32)).toInt = 0 from by decide]; first | exact b2 | omega)) ?_
  refine ev_go 2 (pc1 := 23) (lv1 := [.ref 3, .int t]) (st1 := [.int 1]) (h1 := (124, I, J, R)) rfl ?_
  exact ev_ret rfl rfl
set_option maxRecDepth 20000 in
theorem up_a_3 {L : Nat} {xs : Nat → Int32} {d : Nat} {I : Nat → Nat → Int32} {J : Nat → Nat → Int64} {R : Nat → Nat → Nat} {J1 : Nat → Nat → Int64} {w c : Int32} (hG : aGd R) (c1 : xEv L xs d 124 0 [.ref 66, .int 10] [] (124, I, J, R) (some (.int w)) (124, I, J1, R)) (c2 : xEv L xs d 39 0 [.ref 22, .int (I 66 5)] [] (124, I, J1, R) (some (.int c)) (124, I, J1, R)) (b1 : w.toInt ≥ c.toInt) {v : Option Value} {h' : xH} (hk : xEv L xs (d + 1) 123 97 [.ref 63, .ref 3, .int (I 66 5), xmk, xmk, xmk, xmk] [] (124, I, J1, R) v h') : xEv L xs (d + 1) 123 0 [.ref 63, .ref 3, xmk, xmk, xmk, xmk, xmk] [] (124, I, J, R) v h' := by
  refine ev_go 1 (pc1 := 1) (lv1 := [.ref 63, .ref 3, xmk, xmk, xmk, xmk, xmk]) (st1 := [.ref 63]) (h1 := (124, I, J, R)) rfl ?_
  refine ev_gf (c := 63) (t := 66) (X := R 63 3) rfl rfl (fun _ => rfl) rfl (hG 63 3 66 rfl rfl) ?_
  refine ev_go 3 (pc1 := 9) (lv1 := [.ref 63, .ref 3, .int (I 66 5), xmk, xmk, xmk, xmk]) (st1 := [.ref 63]) (h1 := (124, I, J, R)) rfl ?_
  refine ev_gf (c := 63) (t := 66) (X := R 63 3) rfl rfl (fun _ => rfl) rfl (hG 63 3 66 rfl rfl) ?_
  refine ev_go 1 (pc1 := 14) (lv1 := [.ref 63, .ref 3, .int (I 66 5), xmk, xmk, xmk, xmk]) (st1 := [.int 10, .ref 66]) (h1 := (124, I, J, R)) rfl ?_
  refine ev_call (v1 := (some (.int w))) (h1 := (124, I, J1, R)) rfl rfl c1 ?_
  refine ev_go 1 (pc1 := 18) (lv1 := [.ref 63, .ref 3, .int (I 66 5), xmk, xmk, xmk, xmk]) (st1 := [.ref 3, .int w]) (h1 := (124, I, J1, R)) rfl ?_
  refine ev_gf (c := 3) (t := 17) (X := R 3 13) rfl rfl (fun _ => rfl) rfl (hG 3 13 17 rfl rfl) ?_
  refine ev_gf (c := 17) (t := 22) (X := R 17 4) rfl rfl (fun _ => rfl) rfl (hG 17 4 22 rfl rfl) ?_
  refine ev_go 1 (pc1 := 25) (lv1 := [.ref 63, .ref 3, .int (I 66 5), xmk, xmk, xmk, xmk]) (st1 := [.int (I 66 5), .ref 22, .int w]) (h1 := (124, I, J1, R)) rfl ?_
  refine ev_call (v1 := (some (.int c))) (h1 := (124, I, J1, R)) rfl rfl c2 ?_
  refine ev_br (b1 := true) rfl rfl (xcd_ge (x := w) (y := c) (by first | exact b1 | omega)) ?_
  exact hk
set_option maxRecDepth 20000 in
theorem up_b_3 {L : Nat} {xs : Nat → Int32} {d : Nat} {I : Nat → Nat → Int32} {J : Nat → Nat → Int64} {R : Nat → Nat → Nat} {J1 : Nat → Nat → Int64} {I1 : Nat → Nat → Int32} {J2 : Nat → Nat → Int64} {I2 : Nat → Nat → Int32} {J3 : Nat → Nat → Int64} {w c a b x y : Int32} (hG : aGd R) (c1 : xEv L xs d 124 0 [.ref 66, .int 10] [] (124, I, J, R) (some (.int w)) (124, I, J1, R)) (c2 : xEv L xs d 39 0 [.ref 22, .int (I 66 5)] [] (124, I, J1, R) (some (.int c)) (124, I, J1, R)) (b1 : w.toInt < c.toInt) (c3 : xEv L xs d 39 0 [.ref 20, .int (I 66 5)] [] (124, I, J1, R) (some (.int a)) (124, I, J1, R)) (c4 : xEv L xs d 39 0 [.ref 21, .int (I 66 5)] [] (124, I, J1, R) (some (.int b)) (124, I, J1, R)) (c5 : xEv L xs d 125 0 [.ref 66, .int a, xmk, xmk] [] (124, I, J1, R) (some (.int x)) (124, I, J1, R)) (c6 : xEv L xs d 125 0 [.ref 66, .int b, xmk, xmk] [] (124, I, J1, R) (some (.int y)) (124, I, J1, R)) (c7 : xEv L xs d 126 0 [.ref 63, .ref 3, .int x, .int a, .int b, xmk] [] (124, I, J1, R) none (124, I1, J2, R)) (c8 : xEv L xs d 126 0 [.ref 63, .ref 3, .int y, .int b, .int a, xmk] [] (124, I1, J2, R) none (124, I2, J3, R)) {v : Option Value} {h' : xH} (hk : xEv L xs (d + 1) 123 97 [.ref 63, .ref 3, .int (I 66 5), .int a, .int b, .int x, .int y] [] (124, I2, J3, R) v h') : xEv L xs (d + 1) 123 0 [.ref 63, .ref 3, xmk, xmk, xmk, xmk, xmk] [] (124, I, J, R) v h' := by
  refine ev_go 1 (pc1 := 1) (lv1 := [.ref 63, .ref 3, xmk, xmk, xmk, xmk, xmk]) (st1 := [.ref 63]) (h1 := (124, I, J, R)) rfl ?_
  refine ev_gf (c := 63) (t := 66) (X := R 63 3) rfl rfl (fun _ => rfl) rfl (hG 63 3 66 rfl rfl) ?_
  refine ev_go 3 (pc1 := 9) (lv1 := [.ref 63, .ref 3, .int (I 66 5), xmk, xmk, xmk, xmk]) (st1 := [.ref 63]) (h1 := (124, I, J, R)) rfl ?_
  refine ev_gf (c := 63) (t := 66) (X := R 63 3) rfl rfl (fun _ => rfl) rfl (hG 63 3 66 rfl rfl) ?_
  refine ev_go 1 (pc1 := 14) (lv1 := [.ref 63, .ref 3, .int (I 66 5), xmk, xmk, xmk, xmk]) (st1 := [.int 10, .ref 66]) (h1 := (124, I, J, R)) rfl ?_
  refine ev_call (v1 := (some (.int w))) (h1 := (124, I, J1, R)) rfl rfl c1 ?_
  refine ev_go 1 (pc1 := 18) (lv1 := [.ref 63, .ref 3, .int (I 66 5), xmk, xmk, xmk, xmk]) (st1 := [.ref 3, .int w]) (h1 := (124, I, J1, R)) rfl ?_
  refine ev_gf (c := 3) (t := 17) (X := R 3 13) rfl rfl (fun _ => rfl) rfl (hG 3 13 17 rfl rfl) ?_
  refine ev_gf (c := 17) (t := 22) (X := R 17 4) rfl rfl (fun _ => rfl) rfl (hG 17 4 22 rfl rfl) ?_
  refine ev_go 1 (pc1 := 25) (lv1 := [.ref 63, .ref 3, .int (I 66 5), xmk, xmk, xmk, xmk]) (st1 := [.int (I 66 5), .ref 22, .int w]) (h1 := (124, I, J1, R)) rfl ?_
  refine ev_call (v1 := (some (.int c))) (h1 := (124, I, J1, R)) rfl rfl c2 ?_
  refine ev_br (b1 := false) rfl rfl (xcd_nge (x := w) (y := c) (by first | exact b1 | omega)) ?_
  refine ev_go 1 (pc1 := 32) (lv1 := [.ref 63, .ref 3, .int (I 66 5), xmk, xmk, xmk, xmk]) (st1 := [.ref 3]) (h1 := (124, I, J1, R)) rfl ?_
  refine ev_gf (c := 3) (t := 17) (X := R 3 13) rfl rfl (fun _ => rfl) rfl (hG 3 13 17 rfl rfl) ?_
  refine ev_gf (c := 17) (t := 20) (X := R 17 2) rfl rfl (fun _ => rfl) rfl (hG 17 2 20 rfl rfl) ?_
  refine ev_go 1 (pc1 := 39) (lv1 := [.ref 63, .ref 3, .int (I 66 5), xmk, xmk, xmk, xmk]) (st1 := [.int (I 66 5), .ref 20]) (h1 := (124, I, J1, R)) rfl ?_
  refine ev_call (v1 := (some (.int a))) (h1 := (124, I, J1, R)) rfl rfl c3 ?_
  refine ev_go 2 (pc1 := 44) (lv1 := [.ref 63, .ref 3, .int (I 66 5), .int a, xmk, xmk, xmk]) (st1 := [.ref 3]) (h1 := (124, I, J1, R)) rfl ?_
  refine ev_gf (c := 3) (t := 17) (X := R 3 13) rfl rfl (fun _ => rfl) rfl (hG 3 13 17 rfl rfl) ?_
  refine ev_gf (c := 17) (t := 21) (X := R 17 3) rfl rfl (fun _ => rfl) rfl (hG 17 3 21 rfl rfl) ?_
  refine ev_go 1 (pc1 := 51) (lv1 := [.ref 63, .ref 3, .int (I 66 5), .int a, xmk, xmk, xmk]) (st1 := [.int (I 66 5), .ref 21]) (h1 := (124, I, J1, R)) rfl ?_
  refine ev_call (v1 := (some (.int b))) (h1 := (124, I, J1, R)) rfl rfl c4 ?_
  refine ev_go 2 (pc1 := 57) (lv1 := [.ref 63, .ref 3, .int (I 66 5), .int a, .int b, xmk, xmk]) (st1 := [.ref 63]) (h1 := (124, I, J1, R)) rfl ?_
  refine ev_gf (c := 63) (t := 66) (X := R 63 3) rfl rfl (fun _ => rfl) rfl (hG 63 3 66 rfl rfl) ?_
  refine ev_go 1 (pc1 := 61) (lv1 := [.ref 63, .ref 3, .int (I 66 5), .int a, .int b, xmk, xmk]) (st1 := [.int a, .ref 66]) (h1 := (124, I, J1, R)) rfl ?_
  refine ev_call (v1 := (some (.int x))) (h1 := (124, I, J1, R)) rfl rfl c5 ?_
  refine ev_go 2 (pc1 := 67) (lv1 := [.ref 63, .ref 3, .int (I 66 5), .int a, .int b, .int x, xmk]) (st1 := [.ref 63]) (h1 := (124, I, J1, R)) rfl ?_
  refine ev_gf (c := 63) (t := 66) (X := R 63 3) rfl rfl (fun _ => rfl) rfl (hG 63 3 66 rfl rfl) ?_
  refine ev_go 1 (pc1 := 72) (lv1 := [.ref 63, .ref 3, .int (I 66 5), .int a, .int b, .int x, xmk]) (st1 := [.int b, .ref 66]) (h1 := (124, I, J1, R)) rfl ?_
  refine ev_call (v1 := (some (.int y))) (h1 := (124, I, J1, R)) rfl rfl c6 ?_
  refine ev_go 6 (pc1 := 84) (lv1 := [.ref 63, .ref 3, .int (I 66 5), .int a, .int b, .int x, .int y]) (st1 := [.int b, .int a, .int x, .ref 3, .ref 63]) (h1 := (124, I, J1, R)) rfl ?_
  refine ev_call (v1 := none) (h1 := (124, I1, J2, R)) rfl rfl c7 ?_
  refine ev_go 5 (pc1 := 94) (lv1 := [.ref 63, .ref 3, .int (I 66 5), .int a, .int b, .int x, .int y]) (st1 := [.int a, .int b, .int y, .ref 3, .ref 63]) (h1 := (124, I1, J2, R)) rfl ?_
  refine ev_call (v1 := none) (h1 := (124, I2, J3, R)) rfl rfl c8 ?_
  exact hk
set_option maxRecDepth 20000 in
theorem up_e_3 {L : Nat} {xs : Nat → Int32} {d : Nat} {I : Nat → Nat → Int32} {J : Nat → Nat → Int64} {R : Nat → Nat → Nat} {t z : Int32} {w3 w4 w5 w6 : Value} (hG : aGd R) (c1 : xEv L xs d 130 0 [.ref 3, .int t] [] (124, (uI I 66 5 (t + 1)), J, R) (some (.int z)) (124, (uI I 66 5 (t + 1)), J, R)) (b1 : z.toInt = 0) : xEv L xs (d + 1) 123 97 [.ref 63, .ref 3, .int t, w3, w4, w5, w6] [] (124, I, J, R) none (124, (uI I 66 5 (t + 1)), J, R) := by
  refine ev_go 1 (pc1 := 98) (lv1 := [.ref 63, .ref 3, .int t, w3, w4, w5, w6]) (st1 := [.ref 63]) (h1 := (124, I, J, R)) rfl ?_
  refine ev_gf (c := 63) (t := 66) (X := R 63 3) rfl rfl (fun _ => rfl) rfl (hG 63 3 66 rfl rfl) ?_
  refine ev_go 6 (pc1 := 109) (lv1 := [.ref 63, .ref 3, .int t, w3, w4, w5, w6]) (st1 := [.int t, .ref 3]) (h1 := (124, (uI I 66 5 (t + 1)), J, R)) rfl ?_
  refine ev_call (v1 := (some (.int z))) (h1 := (124, (uI I 66 5 (t + 1)), J, R)) rfl rfl c1 ?_
  refine ev_br (b1 := true) rfl rfl (xcd_eq (x := z) (y := 0) (by rw [show ((0 : Int32)).toInt = 0 from by decide]; first | exact b1 | omega)) ?_
  exact ev_ret rfl rfl
set_option maxRecDepth 20000 in
theorem up_n_3 {L : Nat} {xs : Nat → Int32} {d : Nat} {I : Nat → Nat → Int32} {J : Nat → Nat → Int64} {R : Nat → Nat → Nat} {I1 : Nat → Nat → Int32} {J1 : Nat → Nat → Int64} {t z : Int32} {w3 w4 w5 w6 : Value} (hG : aGd R) (c1 : xEv L xs d 130 0 [.ref 3, .int t] [] (124, (uI I 66 5 (t + 1)), J, R) (some (.int z)) (124, (uI I 66 5 (t + 1)), J, R)) (b1 : z.toInt ≠ 0) (c2 : xEv L xs d 131 0 [.ref 63, .ref 3, xmk] [] (124, (uI I 66 5 (t + 1)), J, R) none (124, I1, J1, R)) : xEv L xs (d + 1) 123 97 [.ref 63, .ref 3, .int t, w3, w4, w5, w6] [] (124, I, J, R) none (124, I1, J1, R) := by
  refine ev_go 1 (pc1 := 98) (lv1 := [.ref 63, .ref 3, .int t, w3, w4, w5, w6]) (st1 := [.ref 63]) (h1 := (124, I, J, R)) rfl ?_
  refine ev_gf (c := 63) (t := 66) (X := R 63 3) rfl rfl (fun _ => rfl) rfl (hG 63 3 66 rfl rfl) ?_
  refine ev_go 6 (pc1 := 109) (lv1 := [.ref 63, .ref 3, .int t, w3, w4, w5, w6]) (st1 := [.int t, .ref 3]) (h1 := (124, (uI I 66 5 (t + 1)), J, R)) rfl ?_
  refine ev_call (v1 := (some (.int z))) (h1 := (124, (uI I 66 5 (t + 1)), J, R)) rfl rfl c1 ?_
  refine ev_br (b1 := false) rfl rfl (xcd_neq (x := z) (y := 0) (by rw [show ((0 : Int32)).toInt = 0 from by decide]; first | exact b1 | omega)) ?_
  refine ev_go 2 (pc1 := 117) (lv1 := [.ref 63, .ref 3, .int t, w3, w4, w5, w6]) (st1 := [.ref 3, .ref 63]) (h1 := (124, (uI I 66 5 (t + 1)), J, R)) rfl ?_
  refine ev_call (v1 := none) (h1 := (124, I1, J1, R)) rfl rfl c2 ?_
  exact ev_ret rfl rfl
set_option maxRecDepth 20000 in
theorem ul_n_23 {L : Nat} {xs : Nat → Int32} {d : Nat} {I : Nat → Nat → Int32} {J : Nat → Nat → Int64} {R : Nat → Nat → Nat} {t : Int32} (hG : aGd R) (b1 : (I 23 15).toInt > 0) (n1 : (I 23 15) ≠ 0) (b2 : ((t + 1) - (t + 1) / (I 23 15) * (I 23 15)).toInt ≠ 0) : xEv L xs d 130 0 [.ref 23, .int t] [] (124, I, J, R) (some (.int 0)) (124, I, J, R) := by
  refine ev_go 2 (pc1 := 4) (lv1 := [.ref 23, .int t]) (st1 := [.int (I 23 15)]) (h1 := (124, I, J, R)) rfl ?_
  refine ev_br (b1 := false) rfl rfl (xcd_nle (x := (I 23 15)) (y := 0) (by rw [show ((0 : Int32)).toInt = 0 from by decide]; first | exact b1 | omega)) ?_
  refine ev_go 5 (pc1 := 14) (lv1 := [.ref 23, .int t]) (st1 := [.int (I 23 15), .int (t + 1)]) (h1 := (124, I, J, R)) rfl ?_
  refine ev_rem rfl rfl n1 ?_
  refine ev_br (b1 := true) rfl rfl (xcd_ne (x := ((t + 1) - (t + 1) / (I 23 15) * (I 23 15))) (y := 0) (by rw [show ((0 : Int32)).toInt = 0 from by decide]; first | exact b2 | omega)) ?_
  refine ev_go 1 (pc1 := 23) (lv1 := [.ref 23, .int t]) (st1 := [.int 0]) (h1 := (124, I, J, R)) rfl ?_
  exact ev_ret rfl rfl
set_option maxRecDepth 20000 in
theorem ul_y_23 {L : Nat} {xs : Nat → Int32} {d : Nat} {I : Nat → Nat → Int32} {J : Nat → Nat → Int64} {R : Nat → Nat → Nat} {t : Int32} (hG : aGd R) (b1 : (I 23 15).toInt > 0) (n1 : (I 23 15) ≠ 0) (b2 : ((t + 1) - (t + 1) / (I 23 15) * (I 23 15)).toInt = 0) : xEv L xs d 130 0 [.ref 23, .int t] [] (124, I, J, R) (some (.int 1)) (124, I, J, R) := by
  refine ev_go 2 (pc1 := 4) (lv1 := [.ref 23, .int t]) (st1 := [.int (I 23 15)]) (h1 := (124, I, J, R)) rfl ?_
  refine ev_br (b1 := false) rfl rfl (xcd_nle (x := (I 23 15)) (y := 0) (by rw [show ((0 : Int32)).toInt = 0 from by decide]; first | exact b1 | omega)) ?_
  refine ev_go 5 (pc1 := 14) (lv1 := [.ref 23, .int t]) (st1 := [.int (I 23 15), .int (t + 1)]) (h1 := (124, I, J, R)) rfl ?_
  refine ev_rem rfl rfl n1 ?_
  refine ev_br (b1 := false) rfl rfl (xcd_nne (x := ((t + 1) - (t + 1) / (I 23 15) * (I 23 15))) (y := 0) (by rw [show ((0 : Int32)).toInt = 0 from by decide]; first | exact b2 | omega)) ?_
  refine ev_go 2 (pc1 := 23) (lv1 := [.ref 23, .int t]) (st1 := [.int 1]) (h1 := (124, I, J, R)) rfl ?_
  exact ev_ret rfl rfl
set_option maxRecDepth 20000 in
theorem up_a_23 {L : Nat} {xs : Nat → Int32} {d : Nat} {I : Nat → Nat → Int32} {J : Nat → Nat → Int64} {R : Nat → Nat → Nat} {J1 : Nat → Nat → Int64} {w c : Int32} (hG : aGd R) (c1 : xEv L xs d 124 0 [.ref 66, .int 10] [] (124, I, J, R) (some (.int w)) (124, I, J1, R)) (c2 : xEv L xs d 39 0 [.ref 42, .int (I 66 5)] [] (124, I, J1, R) (some (.int c)) (124, I, J1, R)) (b1 : w.toInt ≥ c.toInt) {v : Option Value} {h' : xH} (hk : xEv L xs (d + 1) 123 97 [.ref 63, .ref 23, .int (I 66 5), xmk, xmk, xmk, xmk] [] (124, I, J1, R) v h') : xEv L xs (d + 1) 123 0 [.ref 63, .ref 23, xmk, xmk, xmk, xmk, xmk] [] (124, I, J, R) v h' := by
  refine ev_go 1 (pc1 := 1) (lv1 := [.ref 63, .ref 23, xmk, xmk, xmk, xmk, xmk]) (st1 := [.ref 63]) (h1 := (124, I, J, R)) rfl ?_
  refine ev_gf (c := 63) (t := 66) (X := R 63 3) rfl rfl (fun _ => rfl) rfl (hG 63 3 66 rfl rfl) ?_
  refine ev_go 3 (pc1 := 9) (lv1 := [.ref 63, .ref 23, .int (I 66 5), xmk, xmk, xmk, xmk]) (st1 := [.ref 63]) (h1 := (124, I, J, R)) rfl ?_
  refine ev_gf (c := 63) (t := 66) (X := R 63 3) rfl rfl (fun _ => rfl) rfl (hG 63 3 66 rfl rfl) ?_
  refine ev_go 1 (pc1 := 14) (lv1 := [.ref 63, .ref 23, .int (I 66 5), xmk, xmk, xmk, xmk]) (st1 := [.int 10, .ref 66]) (h1 := (124, I, J, R)) rfl ?_
  refine ev_call (v1 := (some (.int w))) (h1 := (124, I, J1, R)) rfl rfl c1 ?_
  refine ev_go 1 (pc1 := 18) (lv1 := [.ref 63, .ref 23, .int (I 66 5), xmk, xmk, xmk, xmk]) (st1 := [.ref 23, .int w]) (h1 := (124, I, J1, R)) rfl ?_
  refine ev_gf (c := 23) (t := 37) (X := R 23 13) rfl rfl (fun _ => rfl) rfl (hG 23 13 37 rfl rfl) ?_
  refine ev_gf (c := 37) (t := 42) (X := R 37 4) rfl rfl (fun _ => rfl) rfl (hG 37 4 42 rfl rfl) ?_
  refine ev_go 1 (pc1 := 25) (lv1 := [.ref 63, .ref 23, .int (I 66 5), xmk, xmk, xmk, xmk]) (st1 := [.int (I 66 5), .ref 42, .int w]) (h1 := (124, I, J1, R)) rfl ?_
  refine ev_call (v1 := (some (.int c))) (h1 := (124, I, J1, R)) rfl rfl c2 ?_
  refine ev_br (b1 := true) rfl rfl (xcd_ge (x := w) (y := c) (by first | exact b1 | omega)) ?_
  exact hk
set_option maxRecDepth 20000 in
theorem up_b_23 {L : Nat} {xs : Nat → Int32} {d : Nat} {I : Nat → Nat → Int32} {J : Nat → Nat → Int64} {R : Nat → Nat → Nat} {J1 : Nat → Nat → Int64} {I1 : Nat → Nat → Int32} {J2 : Nat → Nat → Int64} {I2 : Nat → Nat → Int32} {J3 : Nat → Nat → Int64} {w c a b x y : Int32} (hG : aGd R) (c1 : xEv L xs d 124 0 [.ref 66, .int 10] [] (124, I, J, R) (some (.int w)) (124, I, J1, R)) (c2 : xEv L xs d 39 0 [.ref 42, .int (I 66 5)] [] (124, I, J1, R) (some (.int c)) (124, I, J1, R)) (b1 : w.toInt < c.toInt) (c3 : xEv L xs d 39 0 [.ref 40, .int (I 66 5)] [] (124, I, J1, R) (some (.int a)) (124, I, J1, R)) (c4 : xEv L xs d 39 0 [.ref 41, .int (I 66 5)] [] (124, I, J1, R) (some (.int b)) (124, I, J1, R)) (c5 : xEv L xs d 125 0 [.ref 66, .int a, xmk, xmk] [] (124, I, J1, R) (some (.int x)) (124, I, J1, R)) (c6 : xEv L xs d 125 0 [.ref 66, .int b, xmk, xmk] [] (124, I, J1, R) (some (.int y)) (124, I, J1, R)) (c7 : xEv L xs d 126 0 [.ref 63, .ref 23, .int x, .int a, .int b, xmk] [] (124, I, J1, R) none (124, I1, J2, R)) (c8 : xEv L xs d 126 0 [.ref 63, .ref 23, .int y, .int b, .int a, xmk] [] (124, I1, J2, R) none (124, I2, J3, R)) {v : Option Value} {h' : xH} (hk : xEv L xs (d + 1) 123 97 [.ref 63, .ref 23, .int (I 66 5), .int a, .int b, .int x, .int y] [] (124, I2, J3, R) v h') : xEv L xs (d + 1) 123 0 [.ref 63, .ref 23, xmk, xmk, xmk, xmk, xmk] [] (124, I, J, R) v h' := by
  refine ev_go 1 (pc1 := 1) (lv1 := [.ref 63, .ref 23, xmk, xmk, xmk, xmk, xmk]) (st1 := [.ref 63]) (h1 := (124, I, J, R)) rfl ?_
  refine ev_gf (c := 63) (t := 66) (X := R 63 3) rfl rfl (fun _ => rfl) rfl (hG 63 3 66 rfl rfl) ?_
  refine ev_go 3 (pc1 := 9) (lv1 := [.ref 63, .ref 23, .int (I 66 5), xmk, xmk, xmk, xmk]) (st1 := [.ref 63]) (h1 := (124, I, J, R)) rfl ?_
  refine ev_gf (c := 63) (t := 66) (X := R 63 3) rfl rfl (fun _ => rfl) rfl (hG 63 3 66 rfl rfl) ?_
  refine ev_go 1 (pc1 := 14) (lv1 := [.ref 63, .ref 23, .int (I 66 5), xmk, xmk, xmk, xmk]) (st1 := [.int 10, .ref 66]) (h1 := (124, I, J, R)) rfl ?_
  refine ev_call (v1 := (some (.int w))) (h1 := (124, I, J1, R)) rfl rfl c1 ?_
  refine ev_go 1 (pc1 := 18) (lv1 := [.ref 63, .ref 23, .int (I 66 5), xmk, xmk, xmk, xmk]) (st1 := [.ref 23, .int w]) (h1 := (124, I, J1, R)) rfl ?_
  refine ev_gf (c := 23) (t := 37) (X := R 23 13) rfl rfl (fun _ => rfl) rfl (hG 23 13 37 rfl rfl) ?_
  refine ev_gf (c := 37) (t := 42) (X := R 37 4) rfl rfl (fun _ => rfl) rfl (hG 37 4 42 rfl rfl) ?_
  refine ev_go 1 (pc1 := 25) (lv1 := [.ref 63, .ref 23, .int (I 66 5), xmk, xmk, xmk, xmk]) (st1 := [.int (I 66 5), .ref 42, .int w]) (h1 := (124, I, J1, R)) rfl ?_
  refine ev_call (v1 := (some (.int c))) (h1 := (124, I, J1, R)) rfl rfl c2 ?_
  refine ev_br (b1 := false) rfl rfl (xcd_nge (x := w) (y := c) (by first | exact b1 | omega)) ?_
  refine ev_go 1 (pc1 := 32) (lv1 := [.ref 63, .ref 23, .int (I 66 5), xmk, xmk, xmk, xmk]) (st1 := [.ref 23]) (h1 := (124, I, J1, R)) rfl ?_
  refine ev_gf (c := 23) (t := 37) (X := R 23 13) rfl rfl (fun _ => rfl) rfl (hG 23 13 37 rfl rfl) ?_
  refine ev_gf (c := 37) (t := 40) (X := R 37 2) rfl rfl (fun _ => rfl) rfl (hG 37 2 40 rfl rfl) ?_
  refine ev_go 1 (pc1 := 39) (lv1 := [.ref 63, .ref 23, .int (I 66 5), xmk, xmk, xmk, xmk]) (st1 := [.int (I 66 5), .ref 40]) (h1 := (124, I, J1, R)) rfl ?_
  refine ev_call (v1 := (some (.int a))) (h1 := (124, I, J1, R)) rfl rfl c3 ?_
  refine ev_go 2 (pc1 := 44) (lv1 := [.ref 63, .ref 23, .int (I 66 5), .int a, xmk, xmk, xmk]) (st1 := [.ref 23]) (h1 := (124, I, J1, R)) rfl ?_
  refine ev_gf (c := 23) (t := 37) (X := R 23 13) rfl rfl (fun _ => rfl) rfl (hG 23 13 37 rfl rfl) ?_
  refine ev_gf (c := 37) (t := 41) (X := R 37 3) rfl rfl (fun _ => rfl) rfl (hG 37 3 41 rfl rfl) ?_
  refine ev_go 1 (pc1 := 51) (lv1 := [.ref 63, .ref 23, .int (I 66 5), .int a, xmk, xmk, xmk]) (st1 := [.int (I 66 5), .ref 41]) (h1 := (124, I, J1, R)) rfl ?_
  refine ev_call (v1 := (some (.int b))) (h1 := (124, I, J1, R)) rfl rfl c4 ?_
  refine ev_go 2 (pc1 := 57) (lv1 := [.ref 63, .ref 23, .int (I 66 5), .int a, .int b, xmk, xmk]) (st1 := [.ref 63]) (h1 := (124, I, J1, R)) rfl ?_
  refine ev_gf (c := 63) (t := 66) (X := R 63 3) rfl rfl (fun _ => rfl) rfl (hG 63 3 66 rfl rfl) ?_
  refine ev_go 1 (pc1 := 61) (lv1 := [.ref 63, .ref 23, .int (I 66 5), .int a, .int b, xmk, xmk]) (st1 := [.int a, .ref 66]) (h1 := (124, I, J1, R)) rfl ?_
  refine ev_call (v1 := (some (.int x))) (h1 := (124, I, J1, R)) rfl rfl c5 ?_
  refine ev_go 2 (pc1 := 67) (lv1 := [.ref 63, .ref 23, .int (I 66 5), .int a, .int b, .int x, xmk]) (st1 := [.ref 63]) (h1 := (124, I, J1, R)) rfl ?_
  refine ev_gf (c := 63) (t := 66) (X := R 63 3) rfl rfl (fun _ => rfl) rfl (hG 63 3 66 rfl rfl) ?_
  refine ev_go 1 (pc1 := 72) (lv1 := [.ref 63, .ref 23, .int (I 66 5), .int a, .int b, .int x, xmk]) (st1 := [.int b, .ref 66]) (h1 := (124, I, J1, R)) rfl ?_
  refine ev_call (v1 := (some (.int y))) (h1 := (124, I, J1, R)) rfl rfl c6 ?_
  refine ev_go 6 (pc1 := 84) (lv1 := [.ref 63, .ref 23, .int (I 66 5), .int a, .int b, .int x, .int y]) (st1 := [.int b, .int a, .int x, .ref 23, .ref 63]) (h1 := (124, I, J1, R)) rfl ?_
  refine ev_call (v1 := none) (h1 := (124, I1, J2, R)) rfl rfl c7 ?_
  refine ev_go 5 (pc1 := 94) (lv1 := [.ref 63, .ref 23, .int (I 66 5), .int a, .int b, .int x, .int y]) (st1 := [.int a, .int b, .int y, .ref 23, .ref 63]) (h1 := (124, I1, J2, R)) rfl ?_
  refine ev_call (v1 := none) (h1 := (124, I2, J3, R)) rfl rfl c8 ?_
  exact hk
set_option maxRecDepth 20000 in
theorem up_e_23 {L : Nat} {xs : Nat → Int32} {d : Nat} {I : Nat → Nat → Int32} {J : Nat → Nat → Int64} {R : Nat → Nat → Nat} {t z : Int32} {w3 w4 w5 w6 : Value} (hG : aGd R) (c1 : xEv L xs d 130 0 [.ref 23, .int t] [] (124, (uI I 66 5 (t + 1)), J, R) (some (.int z)) (124, (uI I 66 5 (t + 1)), J, R)) (b1 : z.toInt = 0) : xEv L xs (d + 1) 123 97 [.ref 63, .ref 23, .int t, w3, w4, w5, w6] [] (124, I, J, R) none (124, (uI I 66 5 (t + 1)), J, R) := by
  refine ev_go 1 (pc1 := 98) (lv1 := [.ref 63, .ref 23, .int t, w3, w4, w5, w6]) (st1 := [.ref 63]) (h1 := (124, I, J, R)) rfl ?_
  refine ev_gf (c := 63) (t := 66) (X := R 63 3) rfl rfl (fun _ => rfl) rfl (hG 63 3 66 rfl rfl) ?_
  refine ev_go 6 (pc1 := 109) (lv1 := [.ref 63, .ref 23, .int t, w3, w4, w5, w6]) (st1 := [.int t, .ref 23]) (h1 := (124, (uI I 66 5 (t + 1)), J, R)) rfl ?_
  refine ev_call (v1 := (some (.int z))) (h1 := (124, (uI I 66 5 (t + 1)), J, R)) rfl rfl c1 ?_
  refine ev_br (b1 := true) rfl rfl (xcd_eq (x := z) (y := 0) (by rw [show ((0 : Int32)).toInt = 0 from by decide]; first | exact b1 | omega)) ?_
  exact ev_ret rfl rfl
set_option maxRecDepth 20000 in
theorem up_n_23 {L : Nat} {xs : Nat → Int32} {d : Nat} {I : Nat → Nat → Int32} {J : Nat → Nat → Int64} {R : Nat → Nat → Nat} {I1 : Nat → Nat → Int32} {J1 : Nat → Nat → Int64} {t z : Int32} {w3 w4 w5 w6 : Value} (hG : aGd R) (c1 : xEv L xs d 130 0 [.ref 23, .int t] [] (124, (uI I 66 5 (t + 1)), J, R) (some (.int z)) (124, (uI I 66 5 (t + 1)), J, R)) (b1 : z.toInt ≠ 0) (c2 : xEv L xs d 131 0 [.ref 63, .ref 23, xmk] [] (124, (uI I 66 5 (t + 1)), J, R) none (124, I1, J1, R)) : xEv L xs (d + 1) 123 97 [.ref 63, .ref 23, .int t, w3, w4, w5, w6] [] (124, I, J, R) none (124, I1, J1, R) := by
  refine ev_go 1 (pc1 := 98) (lv1 := [.ref 63, .ref 23, .int t, w3, w4, w5, w6]) (st1 := [.ref 63]) (h1 := (124, I, J, R)) rfl ?_
  refine ev_gf (c := 63) (t := 66) (X := R 63 3) rfl rfl (fun _ => rfl) rfl (hG 63 3 66 rfl rfl) ?_
  refine ev_go 6 (pc1 := 109) (lv1 := [.ref 63, .ref 23, .int t, w3, w4, w5, w6]) (st1 := [.int t, .ref 23]) (h1 := (124, (uI I 66 5 (t + 1)), J, R)) rfl ?_
  refine ev_call (v1 := (some (.int z))) (h1 := (124, (uI I 66 5 (t + 1)), J, R)) rfl rfl c1 ?_
  refine ev_br (b1 := false) rfl rfl (xcd_neq (x := z) (y := 0) (by rw [show ((0 : Int32)).toInt = 0 from by decide]; first | exact b1 | omega)) ?_
  refine ev_go 2 (pc1 := 117) (lv1 := [.ref 63, .ref 23, .int t, w3, w4, w5, w6]) (st1 := [.ref 23, .ref 63]) (h1 := (124, (uI I 66 5 (t + 1)), J, R)) rfl ?_
  refine ev_call (v1 := none) (h1 := (124, I1, J1, R)) rfl rfl c2 ?_
  exact ev_ret rfl rfl
set_option maxRecDepth 20000 in
theorem vg_0 {L : Nat} {xs : Nat → Int32} {d : Nat} {I : Nat → Nat → Int32} {J : Nat → Nat → Int64} {R : Nat → Nat → Nat} {J1 : Nat → Nat → Int64} {a b w : Int32} (hG : aGd R) (c1 : xEv L xs d 177 0 [.ref 86, .int (I 121 1)] [] (124, I, J, R) (some (.int a)) (124, I, J, R)) (c2 : xEv L xs d 178 0 [.ref 86, .int (I 121 1)] [] (124, I, J, R) (some (.int b)) (124, I, J, R)) (c3 : xEv L xs d 225 0 [.ref 86, .int 10] [] (124, I, J, R) (some (.int w)) (124, I, J1, R)) (n1 : 0 ≤ (I 121 1).toInt) (m1 : (I 121 1).toInt < 64) (n2 : 0 ≤ (I 101 (I 121 1).toNatClampNeg).toInt) (m2 : (I 101 (I 121 1).toNatClampNeg).toInt < 32) (b1 : w.toInt ≥ (I 95 (I 101 (I 121 1).toNatClampNeg).toNatClampNeg).toInt) {v : Option Value} {h' : xH} (hk : xEv L xs (d + 1) 224 107 [.ref 86, .int (I 121 1), .int a, .int b, .int 0, xmk, xmk] [] (124, I, J1, R) v h') : xEv L xs (d + 1) 224 0 [.ref 86, xmk, xmk, xmk, xmk, xmk, xmk] [] (124, I, J, R) v h' := by
  refine ev_go 1 (pc1 := 1) (lv1 := [.ref 86, xmk, xmk, xmk, xmk, xmk, xmk]) (st1 := [.ref 86]) (h1 := (124, I, J, R)) rfl ?_
  refine ev_gf (c := 86) (t := 121) (X := R 86 56) rfl rfl (fun _ => rfl) rfl (hG 86 56 121 rfl rfl) ?_
  refine ev_go 5 (pc1 := 9) (lv1 := [.ref 86, .int (I 121 1), xmk, xmk, xmk, xmk, xmk]) (st1 := [.int (I 121 1), .ref 86]) (h1 := (124, I, J, R)) rfl ?_
  refine ev_call (v1 := (some (.int a))) (h1 := (124, I, J, R)) rfl rfl c1 ?_
  refine ev_go 3 (pc1 := 15) (lv1 := [.ref 86, .int (I 121 1), .int a, xmk, xmk, xmk, xmk]) (st1 := [.int (I 121 1), .ref 86]) (h1 := (124, I, J, R)) rfl ?_
  refine ev_call (v1 := (some (.int b))) (h1 := (124, I, J, R)) rfl rfl c2 ?_
  refine ev_go 3 (pc1 := 22) (lv1 := [.ref 86, .int (I 121 1), .int a, .int b, xmk, xmk, xmk]) (st1 := [.int 10, .ref 86]) (h1 := (124, I, J, R)) rfl ?_
  refine ev_call (v1 := (some (.int w))) (h1 := (124, I, J1, R)) rfl rfl c3 ?_
  refine ev_go 1 (pc1 := 26) (lv1 := [.ref 86, .int (I 121 1), .int a, .int b, xmk, xmk, xmk]) (st1 := [.ref 86, .int w]) (h1 := (124, I, J1, R)) rfl ?_
  refine ev_gf (c := 86) (t := 95) (X := R 86 19) rfl rfl (fun _ => rfl) rfl (hG 86 19 95 rfl rfl) ?_
  refine ev_go 1 (pc1 := 30) (lv1 := [.ref 86, .int (I 121 1), .int a, .int b, xmk, xmk, xmk]) (st1 := [.ref 86, .ref 95, .int w]) (h1 := (124, I, J1, R)) rfl ?_
  refine ev_gf (c := 86) (t := 101) (X := R 86 27) rfl rfl (fun _ => rfl) rfl (hG 86 27 101 rfl rfl) ?_
  refine ev_go 1 (pc1 := 34) (lv1 := [.ref 86, .int (I 121 1), .int a, .int b, xmk, xmk, xmk]) (st1 := [.int (I 121 1), .ref 101, .ref 95, .int w]) (h1 := (124, I, J1, R)) rfl ?_
  refine ev_ild (n := 64) rfl rfl (fun _ => rfl) n1 m1 ?_
  refine ev_ild (n := 32) rfl rfl (fun _ => rfl) n2 m2 ?_
  refine ev_br (b1 := true) rfl rfl (xcd_ge (x := w) (y := (I 95 (I 101 (I 121 1).toNatClampNeg).toNatClampNeg)) (by first | exact b1 | omega)) ?_
  refine ev_go 4 (pc1 := 107) (lv1 := [.ref 86, .int (I 121 1), .int a, .int b, .int 0, xmk, xmk]) (st1 := []) (h1 := (124, I, J1, R)) rfl ?_
  exact hk
set_option maxRecDepth 20000 in
theorem vg_1 {L : Nat} {xs : Nat → Int32} {d : Nat} {I : Nat → Nat → Int32} {J : Nat → Nat → Int64} {R : Nat → Nat → Nat} {J1 : Nat → Nat → Int64} {a b w : Int32} (hG : aGd R) (c1 : xEv L xs d 177 0 [.ref 86, .int (I 121 1)] [] (124, I, J, R) (some (.int a)) (124, I, J, R)) (c2 : xEv L xs d 178 0 [.ref 86, .int (I 121 1)] [] (124, I, J, R) (some (.int b)) (124, I, J, R)) (c3 : xEv L xs d 225 0 [.ref 86, .int 10] [] (124, I, J, R) (some (.int w)) (124, I, J1, R)) (n1 : 0 ≤ (I 121 1).toInt) (m1 : (I 121 1).toInt < 64) (n2 : 0 ≤ (I 101 (I 121 1).toNatClampNeg).toInt) (m2 : (I 101 (I 121 1).toNatClampNeg).toInt < 32) (b1 : w.toInt < (I 95 (I 101 (I 121 1).toNatClampNeg).toNatClampNeg).toInt) (n3 : 0 ≤ (2 + a).toInt) (m3 : (2 + a).toInt < 100) (b2 : (I 121 (2 + a).toNatClampNeg).toInt ≠ 1) {v : Option Value} {h' : xH} (hk : xEv L xs (d + 1) 224 107 [.ref 86, .int (I 121 1), .int a, .int b, .int 1, xmk, xmk] [] (124, I, J1, R) v h') : xEv L xs (d + 1) 224 0 [.ref 86, xmk, xmk, xmk, xmk, xmk, xmk] [] (124, I, J, R) v h' := by
  refine ev_go 1 (pc1 := 1) (lv1 := [.ref 86, xmk, xmk, xmk, xmk, xmk, xmk]) (st1 := [.ref 86]) (h1 := (124, I, J, R)) rfl ?_
  refine ev_gf (c := 86) (t := 121) (X := R 86 56) rfl rfl (fun _ => rfl) rfl (hG 86 56 121 rfl rfl) ?_
  refine ev_go 5 (pc1 := 9) (lv1 := [.ref 86, .int (I 121 1), xmk, xmk, xmk, xmk, xmk]) (st1 := [.int (I 121 1), .ref 86]) (h1 := (124, I, J, R)) rfl ?_
  refine ev_call (v1 := (some (.int a))) (h1 := (124, I, J, R)) rfl rfl c1 ?_
  refine ev_go 3 (pc1 := 15) (lv1 := [.ref 86, .int (I 121 1), .int a, xmk, xmk, xmk, xmk]) (st1 := [.int (I 121 1), .ref 86]) (h1 := (124, I, J, R)) rfl ?_
  refine ev_call (v1 := (some (.int b))) (h1 := (124, I, J, R)) rfl rfl c2 ?_
  refine ev_go 3 (pc1 := 22) (lv1 := [.ref 86, .int (I 121 1), .int a, .int b, xmk, xmk, xmk]) (st1 := [.int 10, .ref 86]) (h1 := (124, I, J, R)) rfl ?_
  refine ev_call (v1 := (some (.int w))) (h1 := (124, I, J1, R)) rfl rfl c3 ?_
  refine ev_go 1 (pc1 := 26) (lv1 := [.ref 86, .int (I 121 1), .int a, .int b, xmk, xmk, xmk]) (st1 := [.ref 86, .int w]) (h1 := (124, I, J1, R)) rfl ?_
  refine ev_gf (c := 86) (t := 95) (X := R 86 19) rfl rfl (fun _ => rfl) rfl (hG 86 19 95 rfl rfl) ?_
  refine ev_go 1 (pc1 := 30) (lv1 := [.ref 86, .int (I 121 1), .int a, .int b, xmk, xmk, xmk]) (st1 := [.ref 86, .ref 95, .int w]) (h1 := (124, I, J1, R)) rfl ?_
  refine ev_gf (c := 86) (t := 101) (X := R 86 27) rfl rfl (fun _ => rfl) rfl (hG 86 27 101 rfl rfl) ?_
  refine ev_go 1 (pc1 := 34) (lv1 := [.ref 86, .int (I 121 1), .int a, .int b, xmk, xmk, xmk]) (st1 := [.int (I 121 1), .ref 101, .ref 95, .int w]) (h1 := (124, I, J1, R)) rfl ?_
  refine ev_ild (n := 64) rfl rfl (fun _ => rfl) n1 m1 ?_
  refine ev_ild (n := 32) rfl rfl (fun _ => rfl) n2 m2 ?_
  refine ev_br (b1 := false) rfl rfl (xcd_nge (x := w) (y := (I 95 (I 101 (I 121 1).toNatClampNeg).toNatClampNeg)) (by first | exact b1 | omega)) ?_
  refine ev_go 6 (pc1 := 52) (lv1 := [.ref 86, .int (I 121 1), .int a, .int b, .int 1, xmk, xmk]) (st1 := [.ref 86]) (h1 := (124, I, J1, R)) rfl ?_
  refine ev_gf (c := 86) (t := 121) (X := R 86 56) rfl rfl (fun _ => rfl) rfl (hG 86 56 121 rfl rfl) ?_
  refine ev_go 3 (pc1 := 58) (lv1 := [.ref 86, .int (I 121 1), .int a, .int b, .int 1, xmk, xmk]) (st1 := [.int (2 + a), .ref 121]) (h1 := (124, I, J1, R)) rfl ?_
  refine ev_ild (n := 100) rfl rfl (fun _ => rfl) n3 m3 ?_
  refine ev_go 1 (pc1 := 60) (lv1 := [.ref 86, .int (I 121 1), .int a, .int b, .int 1, xmk, xmk]) (st1 := [.int 1, .int (I 121 (2 + a).toNatClampNeg)]) (h1 := (124, I, J1, R)) rfl ?_
  refine ev_br (b1 := true) rfl rfl (xcd_ne (x := (I 121 (2 + a).toNatClampNeg)) (y := 1) (by rw [show ((1 : Int32)).toInt = 1 from by decide]; first | exact b2 | omega)) ?_
  exact hk
set_option maxRecDepth 20000 in
theorem vg_2 {L : Nat} {xs : Nat → Int32} {d : Nat} {I : Nat → Nat → Int32} {J : Nat → Nat → Int64} {R : Nat → Nat → Nat} {J1 : Nat → Nat → Int64} {a b w : Int32} (hG : aGd R) (c1 : xEv L xs d 177 0 [.ref 86, .int (I 121 1)] [] (124, I, J, R) (some (.int a)) (124, I, J, R)) (c2 : xEv L xs d 178 0 [.ref 86, .int (I 121 1)] [] (124, I, J, R) (some (.int b)) (124, I, J, R)) (c3 : xEv L xs d 225 0 [.ref 86, .int 10] [] (124, I, J, R) (some (.int w)) (124, I, J1, R)) (n1 : 0 ≤ (I 121 1).toInt) (m1 : (I 121 1).toInt < 64) (n2 : 0 ≤ (I 101 (I 121 1).toNatClampNeg).toInt) (m2 : (I 101 (I 121 1).toNatClampNeg).toInt < 32) (b1 : w.toInt < (I 95 (I 101 (I 121 1).toNatClampNeg).toNatClampNeg).toInt) (n3 : 0 ≤ (2 + a).toInt) (m3 : (2 + a).toInt < 100) (b2 : (I 121 (2 + a).toNatClampNeg).toInt = 1) (n4 : 0 ≤ (2 + b).toInt) (m4 : (2 + b).toInt < 100) (b3 : (I 121 (2 + b).toNatClampNeg).toInt ≠ 1) {v : Option Value} {h' : xH} (hk : xEv L xs (d + 1) 224 107 [.ref 86, .int (I 121 1), .int a, .int b, .int 1, xmk, xmk] [] (124, I, J1, R) v h') : xEv L xs (d + 1) 224 0 [.ref 86, xmk, xmk, xmk, xmk, xmk, xmk] [] (124, I, J, R) v h' := by
  refine ev_go 1 (pc1 := 1) (lv1 := [.ref 86, xmk, xmk, xmk, xmk, xmk, xmk]) (st1 := [.ref 86]) (h1 := (124, I, J, R)) rfl ?_
  refine ev_gf (c := 86) (t := 121) (X := R 86 56) rfl rfl (fun _ => rfl) rfl (hG 86 56 121 rfl rfl) ?_
  refine ev_go 5 (pc1 := 9) (lv1 := [.ref 86, .int (I 121 1), xmk, xmk, xmk, xmk, xmk]) (st1 := [.int (I 121 1), .ref 86]) (h1 := (124, I, J, R)) rfl ?_
  refine ev_call (v1 := (some (.int a))) (h1 := (124, I, J, R)) rfl rfl c1 ?_
  refine ev_go 3 (pc1 := 15) (lv1 := [.ref 86, .int (I 121 1), .int a, xmk, xmk, xmk, xmk]) (st1 := [.int (I 121 1), .ref 86]) (h1 := (124, I, J, R)) rfl ?_
  refine ev_call (v1 := (some (.int b))) (h1 := (124, I, J, R)) rfl rfl c2 ?_
  refine ev_go 3 (pc1 := 22) (lv1 := [.ref 86, .int (I 121 1), .int a, .int b, xmk, xmk, xmk]) (st1 := [.int 10, .ref 86]) (h1 := (124, I, J, R)) rfl ?_
  refine ev_call (v1 := (some (.int w))) (h1 := (124, I, J1, R)) rfl rfl c3 ?_
  refine ev_go 1 (pc1 := 26) (lv1 := [.ref 86, .int (I 121 1), .int a, .int b, xmk, xmk, xmk]) (st1 := [.ref 86, .int w]) (h1 := (124, I, J1, R)) rfl ?_
  refine ev_gf (c := 86) (t := 95) (X := R 86 19) rfl rfl (fun _ => rfl) rfl (hG 86 19 95 rfl rfl) ?_
  refine ev_go 1 (pc1 := 30) (lv1 := [.ref 86, .int (I 121 1), .int a, .int b, xmk, xmk, xmk]) (st1 := [.ref 86, .ref 95, .int w]) (h1 := (124, I, J1, R)) rfl ?_
  refine ev_gf (c := 86) (t := 101) (X := R 86 27) rfl rfl (fun _ => rfl) rfl (hG 86 27 101 rfl rfl) ?_
  refine ev_go 1 (pc1 := 34) (lv1 := [.ref 86, .int (I 121 1), .int a, .int b, xmk, xmk, xmk]) (st1 := [.int (I 121 1), .ref 101, .ref 95, .int w]) (h1 := (124, I, J1, R)) rfl ?_
  refine ev_ild (n := 64) rfl rfl (fun _ => rfl) n1 m1 ?_
  refine ev_ild (n := 32) rfl rfl (fun _ => rfl) n2 m2 ?_
  refine ev_br (b1 := false) rfl rfl (xcd_nge (x := w) (y := (I 95 (I 101 (I 121 1).toNatClampNeg).toNatClampNeg)) (by first | exact b1 | omega)) ?_
  refine ev_go 6 (pc1 := 52) (lv1 := [.ref 86, .int (I 121 1), .int a, .int b, .int 1, xmk, xmk]) (st1 := [.ref 86]) (h1 := (124, I, J1, R)) rfl ?_
  refine ev_gf (c := 86) (t := 121) (X := R 86 56) rfl rfl (fun _ => rfl) rfl (hG 86 56 121 rfl rfl) ?_
  refine ev_go 3 (pc1 := 58) (lv1 := [.ref 86, .int (I 121 1), .int a, .int b, .int 1, xmk, xmk]) (st1 := [.int (2 + a), .ref 121]) (h1 := (124, I, J1, R)) rfl ?_
  refine ev_ild (n := 100) rfl rfl (fun _ => rfl) n3 m3 ?_
  refine ev_go 1 (pc1 := 60) (lv1 := [.ref 86, .int (I 121 1), .int a, .int b, .int 1, xmk, xmk]) (st1 := [.int 1, .int (I 121 (2 + a).toNatClampNeg)]) (h1 := (124, I, J1, R)) rfl ?_
  refine ev_br (b1 := false) rfl rfl (xcd_nne (x := (I 121 (2 + a).toNatClampNeg)) (y := 1) (by rw [show ((1 : Int32)).toInt = 1 from by decide]; first | exact b2 | omega)) ?_
  refine ev_go 1 (pc1 := 64) (lv1 := [.ref 86, .int (I 121 1), .int a, .int b, .int 1, xmk, xmk]) (st1 := [.ref 86]) (h1 := (124, I, J1, R)) rfl ?_
  refine ev_gf (c := 86) (t := 121) (X := R 86 56) rfl rfl (fun _ => rfl) rfl (hG 86 56 121 rfl rfl) ?_
  refine ev_go 3 (pc1 := 70) (lv1 := [.ref 86, .int (I 121 1), .int a, .int b, .int 1, xmk, xmk]) (st1 := [.int (2 + b), .ref 121]) (h1 := (124, I, J1, R)) rfl ?_
  refine ev_ild (n := 100) rfl rfl (fun _ => rfl) n4 m4 ?_
  refine ev_go 1 (pc1 := 72) (lv1 := [.ref 86, .int (I 121 1), .int a, .int b, .int 1, xmk, xmk]) (st1 := [.int 1, .int (I 121 (2 + b).toNatClampNeg)]) (h1 := (124, I, J1, R)) rfl ?_
  refine ev_br (b1 := true) rfl rfl (xcd_ne (x := (I 121 (2 + b).toNatClampNeg)) (y := 1) (by rw [show ((1 : Int32)).toInt = 1 from by decide]; first | exact b3 | omega)) ?_
  exact hk
set_option maxRecDepth 20000 in
theorem vg_3 {L : Nat} {xs : Nat → Int32} {d : Nat} {I : Nat → Nat → Int32} {J : Nat → Nat → Int64} {R : Nat → Nat → Nat} {J1 : Nat → Nat → Int64} {I1 : Nat → Nat → Int32} {J2 : Nat → Nat → Int64} {I2 : Nat → Nat → Int32} {J3 : Nat → Nat → Int64} {a b w x y : Int32} (hG : aGd R) (c1 : xEv L xs d 177 0 [.ref 86, .int (I 121 1)] [] (124, I, J, R) (some (.int a)) (124, I, J, R)) (c2 : xEv L xs d 178 0 [.ref 86, .int (I 121 1)] [] (124, I, J, R) (some (.int b)) (124, I, J, R)) (c3 : xEv L xs d 225 0 [.ref 86, .int 10] [] (124, I, J, R) (some (.int w)) (124, I, J1, R)) (n1 : 0 ≤ (I 121 1).toInt) (m1 : (I 121 1).toInt < 64) (n2 : 0 ≤ (I 101 (I 121 1).toNatClampNeg).toInt) (m2 : (I 101 (I 121 1).toNatClampNeg).toInt < 32) (b1 : w.toInt < (I 95 (I 101 (I 121 1).toNatClampNeg).toNatClampNeg).toInt) (n3 : 0 ≤ (2 + a).toInt) (m3 : (2 + a).toInt < 100) (b2 : (I 121 (2 + a).toNatClampNeg).toInt = 1) (n4 : 0 ≤ (2 + b).toInt) (m4 : (2 + b).toInt < 100) (b3 : (I 121 (2 + b).toNatClampNeg).toInt = 1) (c4 : xEv L xs d 226 0 [.ref 86, .int a, xmk, xmk] [] (124, I, J1, R) (some (.int x)) (124, I, J1, R)) (c5 : xEv L xs d 226 0 [.ref 86, .int b, xmk, xmk] [] (124, I, J1, R) (some (.int y)) (124, I, J1, R)) (c6 : xEv L xs d 227 0 [.ref 86, .int a, .int b, .int x, .int (I 121 1), xmk, xmk] [] (124, I, J1, R) none (124, I1, J2, R)) (c7 : xEv L xs d 227 0 [.ref 86, .int b, .int a, .int y, .int (I 121 1), xmk, xmk] [] (124, I1, J2, R) none (124, I2, J3, R)) {v : Option Value} {h' : xH} (hk : xEv L xs (d + 1) 224 107 [.ref 86, .int (I 121 1), .int a, .int b, .int 1, .int x, .int y] [] (124, I2, J3, R) v h') : xEv L xs (d + 1) 224 0 [.ref 86, xmk, xmk, xmk, xmk, xmk, xmk] [] (124, I, J, R) v h' := by
  refine ev_go 1 (pc1 := 1) (lv1 := [.ref 86, xmk, xmk, xmk, xmk, xmk, xmk]) (st1 := [.ref 86]) (h1 := (124, I, J, R)) rfl ?_
  refine ev_gf (c := 86) (t := 121) (X := R 86 56) rfl rfl (fun _ => rfl) rfl (hG 86 56 121 rfl rfl) ?_
  refine ev_go 5 (pc1 := 9) (lv1 := [.ref 86, .int (I 121 1), xmk, xmk, xmk, xmk, xmk]) (st1 := [.int (I 121 1), .ref 86]) (h1 := (124, I, J, R)) rfl ?_
  refine ev_call (v1 := (some (.int a))) (h1 := (124, I, J, R)) rfl rfl c1 ?_
  refine ev_go 3 (pc1 := 15) (lv1 := [.ref 86, .int (I 121 1), .int a, xmk, xmk, xmk, xmk]) (st1 := [.int (I 121 1), .ref 86]) (h1 := (124, I, J, R)) rfl ?_
  refine ev_call (v1 := (some (.int b))) (h1 := (124, I, J, R)) rfl rfl c2 ?_
  refine ev_go 3 (pc1 := 22) (lv1 := [.ref 86, .int (I 121 1), .int a, .int b, xmk, xmk, xmk]) (st1 := [.int 10, .ref 86]) (h1 := (124, I, J, R)) rfl ?_
  refine ev_call (v1 := (some (.int w))) (h1 := (124, I, J1, R)) rfl rfl c3 ?_
  refine ev_go 1 (pc1 := 26) (lv1 := [.ref 86, .int (I 121 1), .int a, .int b, xmk, xmk, xmk]) (st1 := [.ref 86, .int w]) (h1 := (124, I, J1, R)) rfl ?_
  refine ev_gf (c := 86) (t := 95) (X := R 86 19) rfl rfl (fun _ => rfl) rfl (hG 86 19 95 rfl rfl) ?_
  refine ev_go 1 (pc1 := 30) (lv1 := [.ref 86, .int (I 121 1), .int a, .int b, xmk, xmk, xmk]) (st1 := [.ref 86, .ref 95, .int w]) (h1 := (124, I, J1, R)) rfl ?_
  refine ev_gf (c := 86) (t := 101) (X := R 86 27) rfl rfl (fun _ => rfl) rfl (hG 86 27 101 rfl rfl) ?_
  refine ev_go 1 (pc1 := 34) (lv1 := [.ref 86, .int (I 121 1), .int a, .int b, xmk, xmk, xmk]) (st1 := [.int (I 121 1), .ref 101, .ref 95, .int w]) (h1 := (124, I, J1, R)) rfl ?_
  refine ev_ild (n := 64) rfl rfl (fun _ => rfl) n1 m1 ?_
  refine ev_ild (n := 32) rfl rfl (fun _ => rfl) n2 m2 ?_
  refine ev_br (b1 := false) rfl rfl (xcd_nge (x := w) (y := (I 95 (I 101 (I 121 1).toNatClampNeg).toNatClampNeg)) (by first | exact b1 | omega)) ?_
  refine ev_go 6 (pc1 := 52) (lv1 := [.ref 86, .int (I 121 1), .int a, .int b, .int 1, xmk, xmk]) (st1 := [.ref 86]) (h1 := (124, I, J1, R)) rfl ?_
  refine ev_gf (c := 86) (t := 121) (X := R 86 56) rfl rfl (fun _ => rfl) rfl (hG 86 56 121 rfl rfl) ?_
  refine ev_go 3 (pc1 := 58) (lv1 := [.ref 86, .int (I 121 1), .int a, .int b, .int 1, xmk, xmk]) (st1 := [.int (2 + a), .ref 121]) (h1 := (124, I, J1, R)) rfl ?_
  refine ev_ild (n := 100) rfl rfl (fun _ => rfl) n3 m3 ?_
  refine ev_go 1 (pc1 := 60) (lv1 := [.ref 86, .int (I 121 1), .int a, .int b, .int 1, xmk, xmk]) (st1 := [.int 1, .int (I 121 (2 + a).toNatClampNeg)]) (h1 := (124, I, J1, R)) rfl ?_
  refine ev_br (b1 := false) rfl rfl (xcd_nne (x := (I 121 (2 + a).toNatClampNeg)) (y := 1) (by rw [show ((1 : Int32)).toInt = 1 from by decide]; first | exact b2 | omega)) ?_
  refine ev_go 1 (pc1 := 64) (lv1 := [.ref 86, .int (I 121 1), .int a, .int b, .int 1, xmk, xmk]) (st1 := [.ref 86]) (h1 := (124, I, J1, R)) rfl ?_
  refine ev_gf (c := 86) (t := 121) (X := R 86 56) rfl rfl (fun _ => rfl) rfl (hG 86 56 121 rfl rfl) ?_
  refine ev_go 3 (pc1 := 70) (lv1 := [.ref 86, .int (I 121 1), .int a, .int b, .int 1, xmk, xmk]) (st1 := [.int (2 + b), .ref 121]) (h1 := (124, I, J1, R)) rfl ?_
  refine ev_ild (n := 100) rfl rfl (fun _ => rfl) n4 m4 ?_
  refine ev_go 1 (pc1 := 72) (lv1 := [.ref 86, .int (I 121 1), .int a, .int b, .int 1, xmk, xmk]) (st1 := [.int 1, .int (I 121 (2 + b).toNatClampNeg)]) (h1 := (124, I, J1, R)) rfl ?_
  refine ev_br (b1 := false) rfl rfl (xcd_nne (x := (I 121 (2 + b).toNatClampNeg)) (y := 1) (by rw [show ((1 : Int32)).toInt = 1 from by decide]; first | exact b3 | omega)) ?_
  refine ev_go 2 (pc1 := 77) (lv1 := [.ref 86, .int (I 121 1), .int a, .int b, .int 1, xmk, xmk]) (st1 := [.int a, .ref 86]) (h1 := (124, I, J1, R)) rfl ?_
  refine ev_call (v1 := (some (.int x))) (h1 := (124, I, J1, R)) rfl rfl c4 ?_
  refine ev_go 3 (pc1 := 84) (lv1 := [.ref 86, .int (I 121 1), .int a, .int b, .int 1, .int x, xmk]) (st1 := [.int b, .ref 86]) (h1 := (124, I, J1, R)) rfl ?_
  refine ev_call (v1 := (some (.int y))) (h1 := (124, I, J1, R)) rfl rfl c5 ?_
  refine ev_go 6 (pc1 := 95) (lv1 := [.ref 86, .int (I 121 1), .int a, .int b, .int 1, .int x, .int y]) (st1 := [.int (I 121 1), .int x, .int b, .int a, .ref 86]) (h1 := (124, I, J1, R)) rfl ?_
  refine ev_call (v1 := none) (h1 := (124, I1, J2, R)) rfl rfl c6 ?_
  refine ev_go 5 (pc1 := 104) (lv1 := [.ref 86, .int (I 121 1), .int a, .int b, .int 1, .int x, .int y]) (st1 := [.int (I 121 1), .int y, .int a, .int b, .ref 86]) (h1 := (124, I1, J2, R)) rfl ?_
  refine ev_call (v1 := none) (h1 := (124, I2, J3, R)) rfl rfl c7 ?_
  exact hk
set_option maxRecDepth 20000 in
theorem vh_l {L : Nat} {xs : Nat → Int32} {d : Nat} {I : Nat → Nat → Int32} {J : Nat → Nat → Int64} {R : Nat → Nat → Nat} {I1 : Nat → Nat → Int32} {J1 : Nat → Nat → Int64} {t : Int32} {w2 w3 w4 w5 w6 : Value} (hG : aGd R) (b1 : (t + 1).toInt = (I 86 26).toInt) (c1 : xEv L xs d 230 0 [.ref 86, xmk, xmk] [] (124, (uI I 121 1 ((I 121 1) + 1)), J, R) none (124, I1, J1, R)) : xEv L xs (d + 1) 224 107 [.ref 86, .int t, w2, w3, w4, w5, w6] [] (124, I, J, R) none (124, I1, J1, R) := by
  refine ev_go 1 (pc1 := 108) (lv1 := [.ref 86, .int t, w2, w3, w4, w5, w6]) (st1 := [.ref 86]) (h1 := (124, I, J, R)) rfl ?_
  refine ev_gf (c := 86) (t := 121) (X := R 86 56) rfl rfl (fun _ => rfl) rfl (hG 86 56 121 rfl rfl) ?_
  refine ev_go 11 (pc1 := 124) (lv1 := [.ref 86, .int t, w2, w3, w4, w5, w6]) (st1 := [.int (I 86 26), .int (t + 1)]) (h1 := (124, (uI I 121 1 ((I 121 1) + 1)), J, R)) rfl ?_
  refine ev_br (b1 := true) rfl rfl (xcd_eq (x := (t + 1)) (y := (I 86 26)) (by first | exact b1 | omega)) ?_
  refine ev_go 1 (pc1 := 151) (lv1 := [.ref 86, .int t, w2, w3, w4, w5, w6]) (st1 := [.ref 86]) (h1 := (124, (uI I 121 1 ((I 121 1) + 1)), J, R)) rfl ?_
  refine ev_call (v1 := none) (h1 := (124, I1, J1, R)) rfl rfl c1 ?_
  exact ev_ret rfl rfl
set_option maxRecDepth 20000 in
theorem vh_n {L : Nat} {xs : Nat → Int32} {d : Nat} {I : Nat → Nat → Int32} {J : Nat → Nat → Int64} {R : Nat → Nat → Nat} {I1 : Nat → Nat → Int32} {J1 : Nat → Nat → Int64} {t : Int32} {w2 w3 w4 w5 w6 : Value} (hG : aGd R) (b1 : (t + 1).toInt ≠ (I 86 26).toInt) (n1 : 0 ≤ (t + 1).toInt) (m1 : (t + 1).toInt < 64) (n2 : 0 ≤ t.toInt) (m2 : t.toInt < 64) (b2 : ((I 102 (t + 1).toNatClampNeg) / 24).toInt ≠ ((I 102 t.toNatClampNeg) / 24).toInt) (c1 : xEv L xs d 230 0 [.ref 86, xmk, xmk] [] (124, (uI I 121 1 ((I 121 1) + 1)), J, R) none (124, I1, J1, R)) : xEv L xs (d + 1) 224 107 [.ref 86, .int t, w2, w3, w4, w5, w6] [] (124, I, J, R) none (124, I1, J1, R) := by
  refine ev_go 1 (pc1 := 108) (lv1 := [.ref 86, .int t, w2, w3, w4, w5, w6]) (st1 := [.ref 86]) (h1 := (124, I, J, R)) rfl ?_
  refine ev_gf (c := 86) (t := 121) (X := R 86 56) rfl rfl (fun _ => rfl) rfl (hG 86 56 121 rfl rfl) ?_
  refine ev_go 11 (pc1 := 124) (lv1 := [.ref 86, .int t, w2, w3, w4, w5, w6]) (st1 := [.int (I 86 26), .int (t + 1)]) (h1 := (124, (uI I 121 1 ((I 121 1) + 1)), J, R)) rfl ?_
  refine ev_br (b1 := false) rfl rfl (xcd_neq (x := (t + 1)) (y := (I 86 26)) (by first | exact b1 | omega)) ?_
  refine ev_go 1 (pc1 := 128) (lv1 := [.ref 86, .int t, w2, w3, w4, w5, w6]) (st1 := [.ref 86]) (h1 := (124, (uI I 121 1 ((I 121 1) + 1)), J, R)) rfl ?_
  refine ev_gf (c := 86) (t := 102) (X := R 86 28) rfl rfl (fun _ => rfl) rfl (hG 86 28 102 rfl rfl) ?_
  refine ev_go 3 (pc1 := 134) (lv1 := [.ref 86, .int t, w2, w3, w4, w5, w6]) (st1 := [.int (t + 1), .ref 102]) (h1 := (124, (uI I 121 1 ((I 121 1) + 1)), J, R)) rfl ?_
  refine ev_ild (n := 64) rfl rfl (fun _ => rfl) n1 m1 ?_
  refine ev_go 1 (pc1 := 137) (lv1 := [.ref 86, .int t, w2, w3, w4, w5, w6]) (st1 := [.int 24, .int (I 102 (t + 1).toNatClampNeg)]) (h1 := (124, (uI I 121 1 ((I 121 1) + 1)), J, R)) rfl ?_
  refine ev_go 2 (pc1 := 139) (lv1 := [.ref 86, .int t, w2, w3, w4, w5, w6]) (st1 := [.ref 86, .int ((I 102 (t + 1).toNatClampNeg) / 24)]) (h1 := (124, (uI I 121 1 ((I 121 1) + 1)), J, R)) rfl ?_
  refine ev_gf (c := 86) (t := 102) (X := R 86 28) rfl rfl (fun _ => rfl) rfl (hG 86 28 102 rfl rfl) ?_
  refine ev_go 1 (pc1 := 143) (lv1 := [.ref 86, .int t, w2, w3, w4, w5, w6]) (st1 := [.int t, .ref 102, .int ((I 102 (t + 1).toNatClampNeg) / 24)]) (h1 := (124, (uI I 121 1 ((I 121 1) + 1)), J, R)) rfl ?_
  refine ev_ild (n := 64) rfl rfl (fun _ => rfl) n2 m2 ?_
  refine ev_go 1 (pc1 := 146) (lv1 := [.ref 86, .int t, w2, w3, w4, w5, w6]) (st1 := [.int 24, .int (I 102 t.toNatClampNeg), .int ((I 102 (t + 1).toNatClampNeg) / 24)]) (h1 := (124, (uI I 121 1 ((I 121 1) + 1)), J, R)) rfl ?_
  refine ev_go 1 (pc1 := 147) (lv1 := [.ref 86, .int t, w2, w3, w4, w5, w6]) (st1 := [.int ((I 102 t.toNatClampNeg) / 24), .int ((I 102 (t + 1).toNatClampNeg) / 24)]) (h1 := (124, (uI I 121 1 ((I 121 1) + 1)), J, R)) rfl ?_
  refine ev_br (b1 := false) rfl rfl (xcd_neq (x := ((I 102 (t + 1).toNatClampNeg) / 24)) (y := ((I 102 t.toNatClampNeg) / 24)) (by first | exact b2 | omega)) ?_
  refine ev_go 1 (pc1 := 151) (lv1 := [.ref 86, .int t, w2, w3, w4, w5, w6]) (st1 := [.ref 86]) (h1 := (124, (uI I 121 1 ((I 121 1) + 1)), J, R)) rfl ?_
  refine ev_call (v1 := none) (h1 := (124, I1, J1, R)) rfl rfl c1 ?_
  exact ev_ret rfl rfl
set_option maxRecDepth 20000 in
theorem vh_e {L : Nat} {xs : Nat → Int32} {d : Nat} {I : Nat → Nat → Int32} {J : Nat → Nat → Int64} {R : Nat → Nat → Nat} {t : Int32} {w2 w3 w4 w5 w6 : Value} (hG : aGd R) (b1 : (t + 1).toInt ≠ (I 86 26).toInt) (n1 : 0 ≤ (t + 1).toInt) (m1 : (t + 1).toInt < 64) (n2 : 0 ≤ t.toInt) (m2 : t.toInt < 64) (b2 : ((I 102 (t + 1).toNatClampNeg) / 24).toInt = ((I 102 t.toNatClampNeg) / 24).toInt) : xEv L xs d 224 107 [.ref 86, .int t, w2, w3, w4, w5, w6] [] (124, I, J, R) none (124, (uI I 121 1 ((I 121 1) + 1)), J, R) := by
  refine ev_go 1 (pc1 := 108) (lv1 := [.ref 86, .int t, w2, w3, w4, w5, w6]) (st1 := [.ref 86]) (h1 := (124, I, J, R)) rfl ?_
  refine ev_gf (c := 86) (t := 121) (X := R 86 56) rfl rfl (fun _ => rfl) rfl (hG 86 56 121 rfl rfl) ?_
  refine ev_go 11 (pc1 := 124) (lv1 := [.ref 86, .int t, w2, w3, w4, w5, w6]) (st1 := [.int (I 86 26), .int (t + 1)]) (h1 := (124, (uI I 121 1 ((I 121 1) + 1)), J, R)) rfl ?_
  refine ev_br (b1 := false) rfl rfl (xcd_neq (x := (t + 1)) (y := (I 86 26)) (by first | exact b1 | omega)) ?_
  refine ev_go 1 (pc1 := 128) (lv1 := [.ref 86, .int t, w2, w3, w4, w5, w6]) (st1 := [.ref 86]) (h1 := (124, (uI I 121 1 ((I 121 1) + 1)), J, R)) rfl ?_
  refine ev_gf (c := 86) (t := 102) (X := R 86 28) rfl rfl (fun _ => rfl) rfl (hG 86 28 102 rfl rfl) ?_
  refine ev_go 3 (pc1 := 134) (lv1 := [.ref 86, .int t, w2, w3, w4, w5, w6]) (st1 := [.int (t + 1), .ref 102]) (h1 := (124, (uI I 121 1 ((I 121 1) + 1)), J, R)) rfl ?_
  refine ev_ild (n := 64) rfl rfl (fun _ => rfl) n1 m1 ?_
  refine ev_go 1 (pc1 := 137) (lv1 := [.ref 86, .int t, w2, w3, w4, w5, w6]) (st1 := [.int 24, .int (I 102 (t + 1).toNatClampNeg)]) (h1 := (124, (uI I 121 1 ((I 121 1) + 1)), J, R)) rfl ?_
  refine ev_go 2 (pc1 := 139) (lv1 := [.ref 86, .int t, w2, w3, w4, w5, w6]) (st1 := [.ref 86, .int ((I 102 (t + 1).toNatClampNeg) / 24)]) (h1 := (124, (uI I 121 1 ((I 121 1) + 1)), J, R)) rfl ?_
  refine ev_gf (c := 86) (t := 102) (X := R 86 28) rfl rfl (fun _ => rfl) rfl (hG 86 28 102 rfl rfl) ?_
  refine ev_go 1 (pc1 := 143) (lv1 := [.ref 86, .int t, w2, w3, w4, w5, w6]) (st1 := [.int t, .ref 102, .int ((I 102 (t + 1).toNatClampNeg) / 24)]) (h1 := (124, (uI I 121 1 ((I 121 1) + 1)), J, R)) rfl ?_
  refine ev_ild (n := 64) rfl rfl (fun _ => rfl) n2 m2 ?_
  refine ev_go 1 (pc1 := 146) (lv1 := [.ref 86, .int t, w2, w3, w4, w5, w6]) (st1 := [.int 24, .int (I 102 t.toNatClampNeg), .int ((I 102 (t + 1).toNatClampNeg) / 24)]) (h1 := (124, (uI I 121 1 ((I 121 1) + 1)), J, R)) rfl ?_
  refine ev_go 1 (pc1 := 147) (lv1 := [.ref 86, .int t, w2, w3, w4, w5, w6]) (st1 := [.int ((I 102 t.toNatClampNeg) / 24), .int ((I 102 (t + 1).toNatClampNeg) / 24)]) (h1 := (124, (uI I 121 1 ((I 121 1) + 1)), J, R)) rfl ?_
  refine ev_br (b1 := true) rfl rfl (xcd_eq (x := ((I 102 (t + 1).toNatClampNeg) / 24)) (y := ((I 102 t.toNatClampNeg) / 24)) (by first | exact b2 | omega)) ?_
  exact ev_ret rfl rfl
