/-- the least n with E tens dividing V times n tens -/
def fgM (V : Int) (E n : Nat) : Prop := tn E ∣ V * tn n ∧ ∀ m, m < n → ¬ tn E ∣ V * tn m
theorem fgM_u {V : Int} {E n n' : Nat} (h : fgM V E n) (h' : fgM V E n') : n = n' := by
  by_cases a : n < n'
  · exact absurd h.1 (h'.2 n a)
  · by_cases b : n' < n
    · exact absurd h'.1 (h.2 n' b)
    · omega
theorem fg_d {V W k : Int} {E s : Nat} (h : V * tn s = W * tn E) (hd : tn E ∣ V * k) : tn s ∣ W * k := by
  obtain ⟨c, hc⟩ := hd
  refine ⟨c, ?_⟩
  have e : W * k * tn E = tn s * c * tn E := by
    have e1 : W * k * tn E = W * tn E * k := by rw [Int.mul_assoc, Int.mul_comm k, ← Int.mul_assoc]
    have e2 : V * tn s * k = V * k * tn s := by rw [Int.mul_assoc, Int.mul_comm (tn s), ← Int.mul_assoc]
    rw [e1, ← h, e2, hc, Int.mul_assoc, Int.mul_comm c, ← Int.mul_assoc, Int.mul_assoc (tn E) (tn s) c, Int.mul_comm (tn E)]
  exact Int.eq_of_mul_eq_mul_right (tn_ne E) e
theorem fgM_x {V W : Int} {E s n : Nat} (h : V * tn s = W * tn E) (hf : fgM V E n) : fgM W s n := ⟨fg_d h hf.1, fun m hm hd => hf.2 m hm (fg_d h.symm hd)⟩
theorem fgM_i {V S : Int} {c n E : Nat} (hV : V = S * tn c) (hE : E = c + n) (hS : n = 0 ∨ S % 10 ≠ 0) : fgM V E n := by
  subst hV
  subst hE
  refine ⟨⟨S, by rw [Int.mul_assoc, ← tn_add, Int.mul_comm]⟩, fun m hm hd => ?_⟩
  rcases hS with h0 | h1
  · omega
  · obtain ⟨k, hk⟩ := hd
    have e : c + n = (c + m) + ((n - m - 1) + 1) := by omega
    rw [Int.mul_assoc, ← tn_add, e, tn_add (c + m) ((n - m - 1) + 1), Int.mul_comm S, Int.mul_assoc] at hk
    have k2 := Int.eq_of_mul_eq_mul_left (tn_ne (c + m)) hk
    have k3 : tn (n - m - 1 + 1) = 10 * tn (n - m - 1) := by
      rw [tn_1, Int.mul_comm]
    rw [k3, Int.mul_assoc] at k2
    omega
set_option maxRecDepth 20000 in
theorem qz_s {L : Nat} {xs : Nat → Int32} {d : Nat} {I : Nat → Nat → Int32} {J : Nat → Nat → Int64} {R : Nat → Nat → Nat} {l : Int64} (hG : aGd R)  {v : Option Value} {h' : xH} (hk : xEv L xs d 81 4 [.long l, xmk, .int 0, .long l, xmk] [] (124, I, J, R) v h') : xEv L xs d 81 0 [.long l, xmk, xmk, xmk, xmk] [] (124, I, J, R) v h' := by
  refine ev_go 4 (pc1 := 4) (lv1 := [.long l, xmk, .int 0, .long l, xmk]) (st1 := []) (h1 := (124, I, J, R)) rfl ?_
  exact hk
set_option maxRecDepth 20000 in
theorem qz_f {L : Nat} {xs : Nat → Int32} {d : Nat} {I : Nat → Nat → Int32} {J : Nat → Nat → Int64} {R : Nat → Nat → Nat} {z : Int32} {l x : Int64} (hG : aGd R) (b1 : z.toInt < 16) (b2 : (lg_cmp (x - x / 10 * 10) 0).toInt ≠ 0) : xEv L xs d 81 4 [.long l, xmk, .int z, .long x, xmk] [] (124, I, J, R) (some (.int z)) (124, I, J, R) := by
  refine ev_go 2 (pc1 := 7) (lv1 := [.long l, xmk, .int z, .long x, xmk]) (st1 := [.int 16, .int z]) (h1 := (124, I, J, R)) rfl ?_
  refine ev_br (b1 := false) rfl rfl (xcd_nge (x := z) (y := 16) (by rw [show ((16 : Int32)).toInt = 16 from by decide]; first | exact b1 | omega)) ?_
  refine ev_go 2 (pc1 := 14) (lv1 := [.long l, xmk, .int z, .long x, xmk]) (st1 := [.long 10, .long x]) (h1 := (124, I, J, R)) rfl ?_
  refine ev_go 3 (pc1 := 17) (lv1 := [.long l, xmk, .int z, .long x, xmk]) (st1 := [.int (lg_cmp (x - x / 10 * 10) 0)]) (h1 := (124, I, J, R)) rfl ?_
  refine ev_br (b1 := true) rfl rfl (xcd_ne (x := (lg_cmp (x - x / 10 * 10) 0)) (y := 0) (by rw [show ((0 : Int32)).toInt = 0 from by decide]; first | exact b2 | omega)) ?_
  refine ev_go 1 (pc1 := 33) (lv1 := [.long l, xmk, .int z, .long x, xmk]) (st1 := [.int z]) (h1 := (124, I, J, R)) rfl ?_
  exact ev_ret rfl rfl
set_option maxRecDepth 20000 in
theorem qz_l {L : Nat} {xs : Nat → Int32} {d : Nat} {I : Nat → Nat → Int32} {J : Nat → Nat → Int64} {R : Nat → Nat → Nat} {z : Int32} {l x : Int64} (hG : aGd R) (b1 : z.toInt < 16) (b2 : (lg_cmp (x - x / 10 * 10) 0).toInt = 0) {v : Option Value} {h' : xH} (hk : xEv L xs d 81 4 [.long l, xmk, .int (z + 1), .long (x / 10), xmk] [] (124, I, J, R) v h') : xEv L xs d 81 4 [.long l, xmk, .int z, .long x, xmk] [] (124, I, J, R) v h' := by
  refine ev_go 2 (pc1 := 7) (lv1 := [.long l, xmk, .int z, .long x, xmk]) (st1 := [.int 16, .int z]) (h1 := (124, I, J, R)) rfl ?_
  refine ev_br (b1 := false) rfl rfl (xcd_nge (x := z) (y := 16) (by rw [show ((16 : Int32)).toInt = 16 from by decide]; first | exact b1 | omega)) ?_
  refine ev_go 2 (pc1 := 14) (lv1 := [.long l, xmk, .int z, .long x, xmk]) (st1 := [.long 10, .long x]) (h1 := (124, I, J, R)) rfl ?_
  refine ev_go 3 (pc1 := 17) (lv1 := [.long l, xmk, .int z, .long x, xmk]) (st1 := [.int (lg_cmp (x - x / 10 * 10) 0)]) (h1 := (124, I, J, R)) rfl ?_
  refine ev_br (b1 := false) rfl rfl (xcd_nne (x := (lg_cmp (x - x / 10 * 10) 0)) (y := 0) (by rw [show ((0 : Int32)).toInt = 0 from by decide]; first | exact b2 | omega)) ?_
  refine ev_go 2 (pc1 := 24) (lv1 := [.long l, xmk, .int z, .long x, xmk]) (st1 := [.long 10, .long x]) (h1 := (124, I, J, R)) rfl ?_
  refine ev_go 4 (pc1 := 4) (lv1 := [.long l, xmk, .int (z + 1), .long (x / 10), xmk]) (st1 := []) (h1 := (124, I, J, R)) rfl ?_
  exact hk
set_option maxRecDepth 20000 in
theorem qg_s {L : Nat} {xs : Nat → Int32} {d : Nat} {I : Nat → Nat → Int32} {J : Nat → Nat → Int64} {R : Nat → Nat → Nat} {p : Int32} (hG : aGd R) (b1 : p.toInt ≥ 0) (b2 : p.toInt < 9) {v : Option Value} {h' : xH} (hk : xEv L xs d 80 19 [.ref 53, .int p, .int ((I 53 1) - 1), xmk, xmk] [] (124, I, J, R) v h') : xEv L xs d 80 0 [.ref 53, .int p, xmk, xmk, xmk] [] (124, I, J, R) v h' := by
  refine ev_go 1 (pc1 := 1) (lv1 := [.ref 53, .int p, xmk, xmk, xmk]) (st1 := [.int p]) (h1 := (124, I, J, R)) rfl ?_
  refine ev_br (b1 := false) rfl rfl (xcd_nlt (x := p) (y := 0) (by rw [show ((0 : Int32)).toInt = 0 from by decide]; first | exact b1 | omega)) ?_
  refine ev_go 2 (pc1 := 7) (lv1 := [.ref 53, .int p, xmk, xmk, xmk]) (st1 := [.int 9, .int p]) (h1 := (124, I, J, R)) rfl ?_
  refine ev_br (b1 := true) rfl rfl (xcd_lt (x := p) (y := 9) (by rw [show ((9 : Int32)).toInt = 9 from by decide]; first | exact b2 | omega)) ?_
  refine ev_go 5 (pc1 := 19) (lv1 := [.ref 53, .int p, .int ((I 53 1) - 1), xmk, xmk]) (st1 := []) (h1 := (124, I, J, R)) rfl ?_
  exact hk
set_option maxRecDepth 20000 in
theorem qg_e {L : Nat} {xs : Nat → Int32} {d : Nat} {I : Nat → Nat → Int32} {J : Nat → Nat → Int64} {R : Nat → Nat → Nat} {p i : Int32} {w3 : Value} (hG : aGd R) (b1 : i.toInt ≤ 0) : xEv L xs d 80 19 [.ref 53, .int p, .int i, w3, xmk] [] (124, I, J, R) (some (.int 0)) (124, I, J, R) := by
  refine ev_go 1 (pc1 := 20) (lv1 := [.ref 53, .int p, .int i, w3, xmk]) (st1 := [.int i]) (h1 := (124, I, J, R)) rfl ?_
  refine ev_br (b1 := true) rfl rfl (xcd_le (x := i) (y := 0) (by rw [show ((0 : Int32)).toInt = 0 from by decide]; first | exact b1 | omega)) ?_
  refine ev_go 1 (pc1 := 58) (lv1 := [.ref 53, .int p, .int i, w3, xmk]) (st1 := [.int 0]) (h1 := (124, I, J, R)) rfl ?_
  exact ev_ret rfl rfl
set_option maxRecDepth 20000 in
theorem qg_l {L : Nat} {xs : Nat → Int32} {d : Nat} {I : Nat → Nat → Int32} {J : Nat → Nat → Int64} {R : Nat → Nat → Nat} {p i dx1 : Int32} {w3 : Value} (hG : aGd R) (b1 : i.toInt > 0) (n1 : 0 ≤ ((p * 9) + i).toInt) (m1 : ((p * 9) + i).toInt < 81) (b2 : (lg_cmp (J 54 ((p * 9) + i).toNatClampNeg) 0).toInt = 0) (i1 : i + (-1) = dx1) {v : Option Value} {h' : xH} (hk : xEv L xs d 80 19 [.ref 53, .int p, .int dx1, .long (J 54 ((p * 9) + i).toNatClampNeg), xmk] [] (124, I, J, R) v h') : xEv L xs d 80 19 [.ref 53, .int p, .int i, w3, xmk] [] (124, I, J, R) v h' := by
  refine ev_go 1 (pc1 := 20) (lv1 := [.ref 53, .int p, .int i, w3, xmk]) (st1 := [.int i]) (h1 := (124, I, J, R)) rfl ?_
  refine ev_br (b1 := false) rfl rfl (xcd_nle (x := i) (y := 0) (by rw [show ((0 : Int32)).toInt = 0 from by decide]; first | exact b1 | omega)) ?_
  refine ev_go 1 (pc1 := 24) (lv1 := [.ref 53, .int p, .int i, w3, xmk]) (st1 := [.ref 53]) (h1 := (124, I, J, R)) rfl ?_
  refine ev_gf (c := 53) (t := 54) (X := R 53 0) rfl rfl (fun _ => rfl) rfl (hG 53 0 54 rfl rfl) ?_
  refine ev_go 5 (pc1 := 33) (lv1 := [.ref 53, .int p, .int i, w3, xmk]) (st1 := [.int ((p * 9) + i), .ref 54]) (h1 := (124, I, J, R)) rfl ?_
  refine ev_lld (n := 81) rfl rfl (fun _ => rfl) n1 m1 ?_
  refine ev_go 4 (pc1 := 38) (lv1 := [.ref 53, .int p, .int i, .long (J 54 ((p * 9) + i).toNatClampNeg), xmk]) (st1 := [.int (lg_cmp (J 54 ((p * 9) + i).toNatClampNeg) 0)]) (h1 := (124, I, J, R)) rfl ?_
  refine ev_br (b1 := true) rfl rfl (xcd_eq (x := (lg_cmp (J 54 ((p * 9) + i).toNatClampNeg) 0)) (y := 0) (by rw [show ((0 : Int32)).toInt = 0 from by decide]; first | exact b2 | omega)) ?_
  refine ev_iinc (x := i) (y := dx1) (lv1 := [.ref 53, .int p, .int dx1, .long (J 54 ((p * 9) + i).toNatClampNeg), xmk]) rfl rfl (by rw [show Int32.ofInt (-1) = (-1) from by decide]; exact i1) rfl ?_
  refine ev_go 1 (pc1 := 19) (lv1 := [.ref 53, .int p, .int dx1, .long (J 54 ((p * 9) + i).toNatClampNeg), xmk]) (st1 := []) (h1 := (124, I, J, R)) rfl ?_
  exact hk
set_option maxRecDepth 20000 in
theorem qg_y {L : Nat} {xs : Nat → Int32} {d : Nat} {I : Nat → Nat → Int32} {J : Nat → Nat → Int64} {R : Nat → Nat → Nat} {p i z : Int32} {w3 : Value} (hG : aGd R) (b1 : i.toInt > 0) (n1 : 0 ≤ ((p * 9) + i).toInt) (m1 : ((p * 9) + i).toInt < 81) (b2 : (lg_cmp (J 54 ((p * 9) + i).toNatClampNeg) 0).toInt ≠ 0) (c1 : xEv L xs d 81 0 [.long (J 54 ((p * 9) + i).toNatClampNeg), xmk, xmk, xmk, xmk] [] (124, I, J, R) (some (.int z)) (124, I, J, R)) : xEv L xs (d + 1) 80 19 [.ref 53, .int p, .int i, w3, xmk] [] (124, I, J, R) (some (.int ((i * 16) - z))) (124, I, J, R) := by
  refine ev_go 1 (pc1 := 20) (lv1 := [.ref 53, .int p, .int i, w3, xmk]) (st1 := [.int i]) (h1 := (124, I, J, R)) rfl ?_
  refine ev_br (b1 := false) rfl rfl (xcd_nle (x := i) (y := 0) (by rw [show ((0 : Int32)).toInt = 0 from by decide]; first | exact b1 | omega)) ?_
  refine ev_go 1 (pc1 := 24) (lv1 := [.ref 53, .int p, .int i, w3, xmk]) (st1 := [.ref 53]) (h1 := (124, I, J, R)) rfl ?_
  refine ev_gf (c := 53) (t := 54) (X := R 53 0) rfl rfl (fun _ => rfl) rfl (hG 53 0 54 rfl rfl) ?_
  refine ev_go 5 (pc1 := 33) (lv1 := [.ref 53, .int p, .int i, w3, xmk]) (st1 := [.int ((p * 9) + i), .ref 54]) (h1 := (124, I, J, R)) rfl ?_
  refine ev_lld (n := 81) rfl rfl (fun _ => rfl) n1 m1 ?_
  refine ev_go 4 (pc1 := 38) (lv1 := [.ref 53, .int p, .int i, .long (J 54 ((p * 9) + i).toNatClampNeg), xmk]) (st1 := [.int (lg_cmp (J 54 ((p * 9) + i).toNatClampNeg) 0)]) (h1 := (124, I, J, R)) rfl ?_
  refine ev_br (b1 := false) rfl rfl (xcd_neq (x := (lg_cmp (J 54 ((p * 9) + i).toNatClampNeg) 0)) (y := 0) (by rw [show ((0 : Int32)).toInt = 0 from by decide]; first | exact b2 | omega)) ?_
  refine ev_go 4 (pc1 := 46) (lv1 := [.ref 53, .int p, .int i, .long (J 54 ((p * 9) + i).toNatClampNeg), xmk]) (st1 := [.long (J 54 ((p * 9) + i).toNatClampNeg), .int (i * 16)]) (h1 := (124, I, J, R)) rfl ?_
  refine ev_call (v1 := (some (.int z))) (h1 := (124, I, J, R)) rfl rfl c1 ?_
  refine ev_go 1 (pc1 := 50) (lv1 := [.ref 53, .int p, .int i, .long (J 54 ((p * 9) + i).toNatClampNeg), xmk]) (st1 := [.int ((i * 16) - z)]) (h1 := (124, I, J, R)) rfl ?_
  exact ev_ret rfl rfl
set_option maxRecDepth 20000 in
theorem qqf_s {L : Nat} {xs : Nat → Int32} {d : Nat} {I : Nat → Nat → Int32} {J : Nat → Nat → Int64} {R : Nat → Nat → Nat} {J1 : Nat → Nat → Int64} {p : Int32} (hG : aGd R) (c1 : xEv L xs d 195 0 [.ref 86, .int p, xmk] [] (124, I, J, R) none (124, I, J1, R)) {v : Option Value} {h' : xH} (hk : xEv L xs (d + 1) 197 10 [.ref 86, .int p, .int (I 86 40)] [] (124, I, J1, R) v h') : xEv L xs (d + 1) 197 0 [.ref 86, .int p, xmk] [] (124, I, J, R) v h' := by
  refine ev_go 2 (pc1 := 2) (lv1 := [.ref 86, .int p, xmk]) (st1 := [.int p, .ref 86]) (h1 := (124, I, J, R)) rfl ?_
  refine ev_call (v1 := none) (h1 := (124, I, J1, R)) rfl rfl c1 ?_
  refine ev_go 3 (pc1 := 10) (lv1 := [.ref 86, .int p, .int (I 86 40)]) (st1 := []) (h1 := (124, I, J1, R)) rfl ?_
  exact hk
set_option maxRecDepth 20000 in
theorem qqf_e {L : Nat} {xs : Nat → Int32} {d : Nat} {I : Nat → Nat → Int32} {J : Nat → Nat → Int64} {R : Nat → Nat → Nat} {p n : Int32} (hG : aGd R) (b1 : n.toInt ≤ 0) : xEv L xs d 197 10 [.ref 86, .int p, .int n] [] (124, I, J, R) (some (.int n)) (124, I, J, R) := by
  refine ev_go 1 (pc1 := 11) (lv1 := [.ref 86, .int p, .int n]) (st1 := [.int n]) (h1 := (124, I, J, R)) rfl ?_
  refine ev_br (b1 := true) rfl rfl (xcd_le (x := n) (y := 0) (by rw [show ((0 : Int32)).toInt = 0 from by decide]; first | exact b1 | omega)) ?_
  refine ev_go 1 (pc1 := 40) (lv1 := [.ref 86, .int p, .int n]) (st1 := [.int n]) (h1 := (124, I, J, R)) rfl ?_
  exact ev_ret rfl rfl
set_option maxRecDepth 20000 in
theorem qqf_x {L : Nat} {xs : Nat → Int32} {d : Nat} {I : Nat → Nat → Int32} {J : Nat → Nat → Int64} {R : Nat → Nat → Nat} {p n : Int32} (hG : aGd R) (b1 : n.toInt > 0) (b2 : (lg_cmp ((J 109 0) - (J 109 0) / 10 * 10) 0).toInt ≠ 0) : xEv L xs d 197 10 [.ref 86, .int p, .int n] [] (124, I, J, R) (some (.int n)) (124, I, J, R) := by
  refine ev_go 1 (pc1 := 11) (lv1 := [.ref 86, .int p, .int n]) (st1 := [.int n]) (h1 := (124, I, J, R)) rfl ?_
  refine ev_br (b1 := false) rfl rfl (xcd_nle (x := n) (y := 0) (by rw [show ((0 : Int32)).toInt = 0 from by decide]; first | exact b1 | omega)) ?_
  refine ev_go 1 (pc1 := 15) (lv1 := [.ref 86, .int p, .int n]) (st1 := [.ref 86]) (h1 := (124, I, J, R)) rfl ?_
  refine ev_gf (c := 86) (t := 109) (X := R 86 39) rfl rfl (fun _ => rfl) rfl (hG 86 39 109 rfl rfl) ?_
  refine ev_go 3 (pc1 := 23) (lv1 := [.ref 86, .int p, .int n]) (st1 := [.long 10, .long (J 109 0)]) (h1 := (124, I, J, R)) rfl ?_
  refine ev_go 3 (pc1 := 26) (lv1 := [.ref 86, .int p, .int n]) (st1 := [.int (lg_cmp ((J 109 0) - (J 109 0) / 10 * 10) 0)]) (h1 := (124, I, J, R)) rfl ?_
  refine ev_br (b1 := true) rfl rfl (xcd_ne (x := (lg_cmp ((J 109 0) - (J 109 0) / 10 * 10) 0)) (y := 0) (by rw [show ((0 : Int32)).toInt = 0 from by decide]; first | exact b2 | omega)) ?_
  refine ev_go 1 (pc1 := 40) (lv1 := [.ref 86, .int p, .int n]) (st1 := [.int n]) (h1 := (124, I, J, R)) rfl ?_
  exact ev_ret rfl rfl
set_option maxRecDepth 20000 in
theorem qqf_l {L : Nat} {xs : Nat → Int32} {d : Nat} {I : Nat → Nat → Int32} {J : Nat → Nat → Int64} {R : Nat → Nat → Nat} {J1 : Nat → Nat → Int64} {p n dx1 : Int32} (hG : aGd R) (b1 : n.toInt > 0) (b2 : (lg_cmp ((J 109 0) - (J 109 0) / 10 * 10) 0).toInt = 0) (c1 : xEv L xs d 196 0 [.ref 86, xmk, xmk, xmk, xmk, xmk] [] (124, I, J, R) none (124, I, J1, R)) (i1 : n + (-1) = dx1) {v : Option Value} {h' : xH} (hk : xEv L xs (d + 1) 197 10 [.ref 86, .int p, .int dx1] [] (124, I, J1, R) v h') : xEv L xs (d + 1) 197 10 [.ref 86, .int p, .int n] [] (124, I, J, R) v h' := by
  refine ev_go 1 (pc1 := 11) (lv1 := [.ref 86, .int p, .int n]) (st1 := [.int n]) (h1 := (124, I, J, R)) rfl ?_
  refine ev_br (b1 := false) rfl rfl (xcd_nle (x := n) (y := 0) (by rw [show ((0 : Int32)).toInt = 0 from by decide]; first | exact b1 | omega)) ?_
  refine ev_go 1 (pc1 := 15) (lv1 := [.ref 86, .int p, .int n]) (st1 := [.ref 86]) (h1 := (124, I, J, R)) rfl ?_
  refine ev_gf (c := 86) (t := 109) (X := R 86 39) rfl rfl (fun _ => rfl) rfl (hG 86 39 109 rfl rfl) ?_
  refine ev_go 3 (pc1 := 23) (lv1 := [.ref 86, .int p, .int n]) (st1 := [.long 10, .long (J 109 0)]) (h1 := (124, I, J, R)) rfl ?_
  refine ev_go 3 (pc1 := 26) (lv1 := [.ref 86, .int p, .int n]) (st1 := [.int (lg_cmp ((J 109 0) - (J 109 0) / 10 * 10) 0)]) (h1 := (124, I, J, R)) rfl ?_
  refine ev_br (b1 := false) rfl rfl (xcd_nne (x := (lg_cmp ((J 109 0) - (J 109 0) / 10 * 10) 0)) (y := 0) (by rw [show ((0 : Int32)).toInt = 0 from by decide]; first | exact b2 | omega)) ?_
  refine ev_go 1 (pc1 := 30) (lv1 := [.ref 86, .int p, .int n]) (st1 := [.ref 86]) (h1 := (124, I, J, R)) rfl ?_
  refine ev_call (v1 := none) (h1 := (124, I, J1, R)) rfl rfl c1 ?_
  refine ev_iinc (x := n) (y := dx1) (lv1 := [.ref 86, .int p, .int dx1]) rfl rfl (by rw [show Int32.ofInt (-1) = (-1) from by decide]; exact i1) rfl ?_
  refine ev_go 1 (pc1 := 10) (lv1 := [.ref 86, .int p, .int dx1]) (st1 := []) (h1 := (124, I, J1, R)) rfl ?_
  exact hk
theorem fg_al {X y z t U : Int} : X * (y * z + 10 * t * z * U) = (y + 10 * (t * U)) * (X * z) := by
  rw [Int.mul_add, Int.add_mul]
  have e1 : X * (y * z) = y * (X * z) := by ac_rfl
  have e2 : X * (10 * t * z * U) = 10 * (t * U) * (X * z) := by ac_rfl
  rw [e1, e2]
theorem qz_run {L : Nat} {xs : Nat → Int32} {d : Nat} {I : Nat → Nat → Int32} {J : Nat → Nat → Int64} {R : Nat → Nat → Nat} (hG : aGd R) {l : Int64} (l0 : 0 < l.toInt) (l1 : l.toInt < 10000000000000000) : ∃ (z : Int32) (zN : Nat) (y : Int), xEv L xs d 81 0 [.long l, xmk, xmk, xmk, xmk] [] (124, I, J, R) (some (.int z)) (124, I, J, R) ∧ z.toInt = zN ∧ zN < 16 ∧ l.toInt = y * tn zN ∧ y % 10 ≠ 0 := by
  have e10 : (10 : Int64).toInt = 10 := by decide
  have e0 : (0 : Int64).toInt = 0 := by decide
  have lp : ∀ (f zN : Nat) (z : Int32) (x : Int64), zN + f = 16 → z.toInt = zN → x.toInt * tn zN = l.toInt → 0 < x.toInt → ∃ (z' : Int32) (zN' : Nat) (y : Int), xEv L xs d 81 4 [.long l, xmk, .int z, .long x, xmk] [] (124, I, J, R) (some (.int z')) (124, I, J, R) ∧ z'.toInt = zN' ∧ zN' < 16 ∧ l.toInt = y * tn zN' ∧ y % 10 ≠ 0 := by
    intro f
    induction f with
    | zero =>
      intro zN z x hz ez hx x0
      have e : zN = 16 := by omega
      rw [e, tn_16] at hx
      omega
    | succ f ih =>
      intro zN z x hz ez hx x0
      have hz' : (z + 1).toInt = (zN + 1 : Nat) := by rw [i_add1 (by omega)]; omega
      have eq := l_div (x := x) (y := 10) (by omega) (by omega)
      have er := l_rem (x := x) (y := 10) (by omega) (by omega)
      rw [e10] at eq er
      by_cases h : (lg_cmp (x - x / 10 * 10) 0).toInt = 0
      · have h' := congrArg Int64.toInt (lg_eq.mp h)
        rw [er, e0] at h'
        obtain ⟨z', zN', y, a1, a2⟩ := ih (zN + 1) (z + 1) (x / 10) (by omega) hz' (by
          rw [eq, tn_1 zN, Int.mul_comm (tn zN), ← Int.mul_assoc, ← hx]
          congr 1
          omega) (by omega)
        exact ⟨z', zN', y, qz_l hG (by omega) h a1, a2⟩
      · refine ⟨z, zN, x.toInt, qz_f hG (by omega) h, ez, by omega, hx.symm, fun h' => h (lg_eq.mpr (Int64.toInt_inj.mp (by rw [er, e0]; exact h')))⟩
  obtain ⟨z', zN', y, a1, a2⟩ := lp 16 0 0 l (by omega) (by decide) (by rw [tn_0, Int.mul_one]) l0
  exact ⟨z', zN', y, qz_s hG a1, a2⟩
theorem qg_run {L : Nat} {xs : Nat → Int32} {d : Nat} {I : Nat → Nat → Int32} {J : Nat → Nat → Int64} {R : Nat → Nat → Nat} (hG : aGd R) {q : Int32} {un qN : Nat} (hu : (I 53 1).toInt = un) (h1 : 1 ≤ un) (h9 : un ≤ 9) (hq : q.toInt = qN) (q9 : qN < 9) (gj : cG J un) : ∃ (r : Int32) (n : Nat), xEv L xs (d + 1) 80 0 [.ref 53, .int q, xmk, xmk, xmk] [] (124, I, J, R) (some (.int r)) (124, I, J, R) ∧ r.toInt = n ∧ fgM (cV J un qN) (16 * (un - 1)) n := by
  have e0 : (0 : Int64).toInt = 0 := by decide
  have lp : ∀ (iN : Nat) (i : Int32) (w3 : Value), iN < un → i.toInt = iN → (∀ k, iN < k → k < un → (J 54 (9 * qN + k)).toInt = 0) → ∃ (r : Int32) (n : Nat), xEv L xs (d + 1) 80 19 [.ref 53, .int q, .int i, w3, xmk] [] (124, I, J, R) (some (.int r)) (124, I, J, R) ∧ r.toInt = n ∧ fgM (cV J un qN) (16 * (un - 1)) n := by
    intro iN
    induction iN with
    | zero =>
      intro i w3 hi ei hz
      refine ⟨0, 0, qg_e hG (by omega), by decide, fgM_i (S := (J 54 (9 * qN)).toInt) (c := 16 * (un - 1)) ?_ (by omega) (Or.inl rfl)⟩
      have t := cV_t (J := J) (un := un) (q := qN) h1
      have z := sT_z (e := 16) (f := cF J un qN) 0 (un - 1) (fun k k1 k2 => hz (un - 1 - k) (by omega) (by omega))
      rw [Nat.zero_add] at z
      rw [t, z, sT_0]
      exact Int.zero_add _
    | succ iN ih =>
      intro i w3 hi ei hz
      obtain ⟨a1, a2, a3⟩ := ix9 hq ei q9 (by omega)
      obtain ⟨dx, hdx⟩ : ∃ dx, i + (-1) = dx := ⟨_, rfl⟩
      have edx : dx.toInt = (iN : Nat) := by
        rw [← hdx, i_add (by rw [show (-1 : Int32).toInt = -1 from by decide]; omega) (by rw [show (-1 : Int32).toInt = -1 from by decide]; omega), show (-1 : Int32).toInt = -1 from by decide]
        omega
      obtain ⟨x0, x1⟩ := gj.1 qN q9 (iN + 1) (by omega)
      by_cases h : (lg_cmp (J 54 (9 * qN + (iN + 1))) 0).toInt = 0
      · have h' := congrArg Int64.toInt (lg_eq.mp h)
        rw [e0] at h'
        obtain ⟨r, n, y1, y2⟩ := ih dx (.long (J 54 ((q * 9) + i).toNatClampNeg)) (by omega) edx (fun k k1 k2 => by
          by_cases e : k = iN + 1
          · rw [e]
            exact h'
          · exact hz k (by omega) k2)
        exact ⟨r, n, qg_l hG (by omega) a1 a2 (by rw [a3]; exact h) hdx y1, y2⟩
      · have hne : (J 54 (9 * qN + (iN + 1))).toInt ≠ 0 := fun g => h (lg_eq.mpr (Int64.toInt_inj.mp (by rw [e0]; exact g)))
        obtain ⟨z, zN, y, z1, z2, z3, z4, z5⟩ := qz_run (L := L) (xs := xs) (d := d) (I := I) (J := J) hG (l := J 54 (9 * qN + (iN + 1))) (by omega) x1
        have e16 : (16 : Int32).toInt = 16 := by decide
        have m1 : (i * 16).toInt = 16 * (iN + 1 : Nat) := by rw [i_mul (by rw [e16]; omega) (by rw [e16]; omega), e16]; omega
        refine ⟨_, 16 * (iN + 1) - zN, qg_y hG (by omega) a1 a2 (by rw [a3]; exact h) (by rw [a3]; exact z1), by rw [i_sub (by omega) (by omega), m1]; omega, ?_⟩
        obtain ⟨m, hm⟩ : ∃ m, m = un - 1 - (iN + 1) := ⟨_, rfl⟩
        have sp := sT_p (e := 16) (f := cF J un qN) m (1 + (un - m - 1))
        rw [show m + (1 + (un - m - 1)) = un from by omega] at sp
        have zl := sT_z (e := 16) (f := cF J un qN) 0 m (fun k k1 k2 => hz (un - 1 - k) (by omega) (by omega))
        rw [Nat.zero_add] at zl
        have sp2 := sT_p (e := 16) (f := fun k => cF J un qN (m + k)) 1 (un - m - 1)
        have f1 : sT 16 (fun k => cF J un qN (m + k)) 1 = (J 54 (9 * qN + (iN + 1))).toInt := by
          rw [sT_1]
          have : cF J un qN (m + 0) = (J 54 (9 * qN + (iN + 1))).toInt := by
            show (J 54 (9 * qN + (un - 1 - (m + 0)))).toInt = _
            rw [show un - 1 - (m + 0) = iN + 1 from by omega]
          exact this
        obtain ⟨U, hU⟩ : ∃ U, sT 16 (fun i => cF J un qN (m + (1 + i))) (un - m - 1) = U := ⟨_, rfl⟩
        rw [f1, hU, z4] at sp2
        have e17 : tn (16 * 1) = tn (16 - zN - 1 + 1) * tn zN := by rw [← tn_add]; congr 1; omega
        have e18 : tn (16 - zN - 1 + 1) = 10 * tn (16 - zN - 1) := by
          rw [tn_1, Int.mul_comm]
        refine fgM_i (S := y + 10 * (tn (16 - zN - 1) * U)) (c := 16 * m + zN) ?_ (by omega) (Or.inr (by omega))
        have ez : sT 16 (cF J un qN) 0 = 0 := sT_0 _ _
        unfold cV
        rw [sp, zl, ez, Int.zero_add, sp2, tn_add, e17, e18]
        exact fg_al
  have es : (I 53 1 - 1).toInt = (un - 1 : Nat) := by rw [i_sub (by rw [show (1 : Int32).toInt = 1 from by decide]; omega) (by rw [show (1 : Int32).toInt = 1 from by decide]; omega), show (1 : Int32).toInt = 1 from by decide]; omega
  obtain ⟨r, n, y1, y2⟩ := lp (un - 1) (I 53 1 - 1) xmk (by omega) es (fun k k1 k2 => by omega)
  exact ⟨r, n, qg_s hG (by omega) (by omega) y1, y2⟩
theorem qqf_run {L : Nat} {xs : Nat → Int32} {d : Nat} {I : Nat → Nat → Int32} {J : Nat → Nat → Int64} {R : Nat → Nat → Nat} (hG : aGd R) {q : Int32} {qN tN : Nat} (hq : q.toInt = qN) (q7 : qN < 7) (ht : (I 86 40).toInt = tN) (t8 : tN ≤ 128) (g : rG J) : ∃ (r : Int32) (n : Nat) (J' : Nat → Nat → Int64), xEv L xs (d + 1) 197 0 [.ref 86, .int q, xmk] [] (124, I, J, R) (some (.int r)) (124, I, J', R) ∧ (∀ c q, c ≠ 109 → J' c q = J c q) ∧ r.toInt = n ∧ fgM (rV J qN) tN n := by
  obtain ⟨J1, x1, x2, x3⟩ := qqp_run (L := L) (xs := xs) (d := d) (I := I) (J := J) hG hq q7
  have d1 : sD J1 := fun k hk => by rw [x3 k hk]; exact g qN (by omega) k hk
  have s1 : sT 9 (sF J1) 16 = rV J qN := sT_c _ (fun k hk => by
    show (J1 109 k).toInt = (J 108 (16 * qN + k)).toInt
    rw [x3 k hk])
  have e10 : (10 : Int64).toInt = 10 := by decide
  have e0 : (0 : Int64).toInt = 0 := by decide
  have lp : ∀ (n : Nat) (k : Int32) (J2 : Nat → Nat → Int64), n ≤ tN → k.toInt = n → sD J2 → (∀ c q, c ≠ 109 → J2 c q = J c q) → rV J qN = sT 9 (sF J2) 16 * tn (tN - n) → ∃ (r : Int32) (n : Nat) (J' : Nat → Nat → Int64), xEv L xs (d + 1) 197 10 [.ref 86, .int q, .int k] [] (124, I, J2, R) (some (.int r)) (124, I, J', R) ∧ (∀ c q, c ≠ 109 → J' c q = J c q) ∧ r.toInt = n ∧ fgM (rV J qN) tN n := by
    intro n
    induction n with
    | zero =>
      intro k J2 hn ek hd hF hS
      exact ⟨k, 0, J2, qqf_e hG (by omega), hF, by omega, fgM_i hS (by omega) (Or.inl rfl)⟩
    | succ n ih =>
      intro k J2 hn ek hd hF hS
      obtain ⟨dx, hdx⟩ : ∃ dx, k + (-1) = dx := ⟨_, rfl⟩
      have edx : dx.toInt = (n : Nat) := by
        rw [← hdx, i_add (by rw [show (-1 : Int32).toInt = -1 from by decide]; omega) (by rw [show (-1 : Int32).toInt = -1 from by decide]; omega), show (-1 : Int32).toInt = -1 from by decide]
        omega
      obtain ⟨a0, a1⟩ := hd 0 (by omega)
      have er := l_rem (x := J2 109 0) (y := 10) a0 (by omega)
      rw [e10] at er
      have p1 := sT_p (e := 9) (f := sF J2) 1 15
      have f1 : sT 9 (sF J2) 1 = (J2 109 0).toInt := by
        exact sT_1 9 (sF J2)
      have t9 : tn (9 * 1) = 1000000000 := tn_9
      rw [show 1 + 15 = 16 from rfl, f1, t9] at p1
      by_cases h : (lg_cmp ((J2 109 0) - (J2 109 0) / 10 * 10) 0).toInt = 0
      · have h' := congrArg Int64.toInt (lg_eq.mp h)
        rw [er, e0] at h'
        obtain ⟨J3, y1, y2, y3, y4⟩ := qqb_run (L := L) (xs := xs) (d := d) (I := I) hG hd
        obtain ⟨r, n', J', z1, z2⟩ := ih dx J3 (by omega) edx y3 (fun c q hc => by rw [y2 c q hc]; exact hF c q hc) (by
          have e : sT 9 (sF J2) 16 = sT 9 (sF J3) 16 * 10 := by omega
          rw [hS, e, show tN - n = (tN - (n + 1)) + 1 from by omega, tn_1, Int.mul_assoc, Int.mul_comm 10])
        exact ⟨r, n', J', qqf_l hG (by omega) h y1 hdx z1, z2⟩
      · have h' : (J2 109 0).toInt % 10 ≠ 0 := fun g => h (lg_eq.mpr (Int64.toInt_inj.mp (by rw [er, e0]; exact g)))
        exact ⟨k, n + 1, J2, qqf_x hG (by omega) h, hF, ek, fgM_i hS (by omega) (Or.inr (by omega))⟩
  obtain ⟨r, n, J', z1, z2⟩ := lp tN (I 86 40) J1 (Nat.le_refl _) ht d1 x2 (by rw [s1, Nat.sub_self, tn_0, Int.mul_one])
  exact ⟨r, n, J', qqf_s hG x1 z1, z2⟩
