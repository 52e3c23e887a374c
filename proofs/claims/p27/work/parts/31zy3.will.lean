theorem at_k {L : Nat} {xs : Nat → Int32} {d : Nat} {I : Nat → Nat → Int32} {J : Nat → Nat → Int64} {R : Nat → Nat → Nat} {c m : Nat} (ho : ∀ f : FieldType → Nat → Option xR, xarr (124, I, J, R) c f = f .int m) (hm : m < 2147483648) {i : Int32} {k : Nat} (hi : i.toInt = k) (hk : k < m) : xEv L xs d 39 0 [.ref c, .int i] [] (124, I, J, R) (some (.int (I c k))) (124, I, J, R) := by
  have h := at_run (L := L) (xs := xs) (d := d) (h := (124, I, J, R)) ho hm i
  have ec := clamp_s (i := i) (by omega)
  have ek : i.toNatClampNeg = k := by omega
  rw [if_pos ⟨by omega, by omega⟩, ek] at h
  exact h
theorem pt_k {L : Nat} {xs : Nat → Int32} {d : Nat} {I : Nat → Nat → Int32} {J : Nat → Nat → Int64} {R : Nat → Nat → Nat} {c m : Nat} (ho : ∀ f : FieldType → Nat → Option xR, xarr (124, I, J, R) c f = f .int m) (hm : m < 2147483648) {i : Int32} {k : Nat} (hi : i.toInt = k) (hk : k < m) (x : Int32) : xEv L xs d 33 0 [.ref c, .int i, .int x] [] (124, I, J, R) none (124, uI I c k x, J, R) := by
  have ec := clamp_s (i := i) (by omega)
  have ek : i.toNatClampNeg = k := by omega
  have h := put_in (L := L) (xs := xs) (d := d) (J := J) (R := R) ho hm (i := i) x (by omega) (by omega)
  rw [ek] at h
  exact h
set_option maxRecDepth 20000 in
theorem um0_3 {L : Nat} {xs : Nat → Int32} {d : Nat} {I : Nat → Nat → Int32} {J : Nat → Nat → Int64} {R : Nat → Nat → Nat} {n p q f : Int32} (hG : aGd R) (c1 : xEv L xs d 39 0 [.ref 12, .int n] [] (124, I, J, R) (some (.int f)) (124, I, J, R)) (b1 : p.toInt = f.toInt) : xEv L xs (d + 1) 127 0 [.ref 63, .ref 3, .int n, .int p, .int q] [] (124, I, J, R) (some (.int 0)) (124, I, J, R) := by
  refine ev_go 2 (pc1 := 2) (lv1 := [.ref 63, .ref 3, .int n, .int p, .int q]) (st1 := [.ref 3, .int p]) (h1 := (124, I, J, R)) rfl ?_
  refine ev_gf (c := 3) (t := 12) (X := R 3 8) rfl rfl (fun _ => rfl) rfl (hG 3 8 12 rfl rfl) ?_
  refine ev_go 1 (pc1 := 6) (lv1 := [.ref 63, .ref 3, .int n, .int p, .int q]) (st1 := [.int n, .ref 12, .int p]) (h1 := (124, I, J, R)) rfl ?_
  refine ev_call (v1 := (some (.int f))) (h1 := (124, I, J, R)) rfl rfl c1 ?_
  refine ev_br (b1 := true) rfl rfl (xcd_eq (x := p) (y := f) (by first | exact b1 | omega)) ?_
  refine ev_go 1 (pc1 := 88) (lv1 := [.ref 63, .ref 3, .int n, .int p, .int q]) (st1 := [.int 0]) (h1 := (124, I, J, R)) rfl ?_
  exact ev_ret rfl rfl
set_option maxRecDepth 20000 in
theorem um1_3 {L : Nat} {xs : Nat → Int32} {d : Nat} {I : Nat → Nat → Int32} {J : Nat → Nat → Int64} {R : Nat → Nat → Nat} {n p q f : Int32} (hG : aGd R) (c1 : xEv L xs d 39 0 [.ref 12, .int n] [] (124, I, J, R) (some (.int f)) (124, I, J, R)) (b1 : p.toInt ≠ f.toInt) (b2 : (((I 66 6) >>> (p &&& 31)) &&& 1).toInt ≠ 1) : xEv L xs (d + 1) 127 0 [.ref 63, .ref 3, .int n, .int p, .int q] [] (124, I, J, R) (some (.int 0)) (124, I, J, R) := by
  refine ev_go 2 (pc1 := 2) (lv1 := [.ref 63, .ref 3, .int n, .int p, .int q]) (st1 := [.ref 3, .int p]) (h1 := (124, I, J, R)) rfl ?_
  refine ev_gf (c := 3) (t := 12) (X := R 3 8) rfl rfl (fun _ => rfl) rfl (hG 3 8 12 rfl rfl) ?_
  refine ev_go 1 (pc1 := 6) (lv1 := [.ref 63, .ref 3, .int n, .int p, .int q]) (st1 := [.int n, .ref 12, .int p]) (h1 := (124, I, J, R)) rfl ?_
  refine ev_call (v1 := (some (.int f))) (h1 := (124, I, J, R)) rfl rfl c1 ?_
  refine ev_br (b1 := false) rfl rfl (xcd_neq (x := p) (y := f) (by first | exact b1 | omega)) ?_
  refine ev_go 1 (pc1 := 13) (lv1 := [.ref 63, .ref 3, .int n, .int p, .int q]) (st1 := [.ref 63]) (h1 := (124, I, J, R)) rfl ?_
  refine ev_gf (c := 63) (t := 66) (X := R 63 3) rfl rfl (fun _ => rfl) rfl (hG 63 3 66 rfl rfl) ?_
  refine ev_go 2 (pc1 := 20) (lv1 := [.ref 63, .ref 3, .int n, .int p, .int q]) (st1 := [.int p, .int (I 66 6)]) (h1 := (124, I, J, R)) rfl ?_
  refine ev_go 4 (pc1 := 24) (lv1 := [.ref 63, .ref 3, .int n, .int p, .int q]) (st1 := [.int 1, .int (((I 66 6) >>> (p &&& 31)) &&& 1)]) (h1 := (124, I, J, R)) rfl ?_
  refine ev_br (b1 := true) rfl rfl (xcd_ne (x := (((I 66 6) >>> (p &&& 31)) &&& 1)) (y := 1) (by rw [show ((1 : Int32)).toInt = 1 from by decide]; first | exact b2 | omega)) ?_
  refine ev_go 1 (pc1 := 88) (lv1 := [.ref 63, .ref 3, .int n, .int p, .int q]) (st1 := [.int 0]) (h1 := (124, I, J, R)) rfl ?_
  exact ev_ret rfl rfl
set_option maxRecDepth 20000 in
theorem um2_3 {L : Nat} {xs : Nat → Int32} {d : Nat} {I : Nat → Nat → Int32} {J : Nat → Nat → Int64} {R : Nat → Nat → Nat} {n p q f : Int32} (hG : aGd R) (c1 : xEv L xs d 39 0 [.ref 12, .int n] [] (124, I, J, R) (some (.int f)) (124, I, J, R)) (b1 : p.toInt ≠ f.toInt) (b2 : (((I 66 6) >>> (p &&& 31)) &&& 1).toInt = 1) (b3 : (((I 66 6) >>> (q &&& 31)) &&& 1).toInt ≠ 1) : xEv L xs (d + 1) 127 0 [.ref 63, .ref 3, .int n, .int p, .int q] [] (124, I, J, R) (some (.int 0)) (124, I, J, R) := by
  refine ev_go 2 (pc1 := 2) (lv1 := [.ref 63, .ref 3, .int n, .int p, .int q]) (st1 := [.ref 3, .int p]) (h1 := (124, I, J, R)) rfl ?_
  refine ev_gf (c := 3) (t := 12) (X := R 3 8) rfl rfl (fun _ => rfl) rfl (hG 3 8 12 rfl rfl) ?_
  refine ev_go 1 (pc1 := 6) (lv1 := [.ref 63, .ref 3, .int n, .int p, .int q]) (st1 := [.int n, .ref 12, .int p]) (h1 := (124, I, J, R)) rfl ?_
  refine ev_call (v1 := (some (.int f))) (h1 := (124, I, J, R)) rfl rfl c1 ?_
  refine ev_br (b1 := false) rfl rfl (xcd_neq (x := p) (y := f) (by first | exact b1 | omega)) ?_
  refine ev_go 1 (pc1 := 13) (lv1 := [.ref 63, .ref 3, .int n, .int p, .int q]) (st1 := [.ref 63]) (h1 := (124, I, J, R)) rfl ?_
  refine ev_gf (c := 63) (t := 66) (X := R 63 3) rfl rfl (fun _ => rfl) rfl (hG 63 3 66 rfl rfl) ?_
  refine ev_go 2 (pc1 := 20) (lv1 := [.ref 63, .ref 3, .int n, .int p, .int q]) (st1 := [.int p, .int (I 66 6)]) (h1 := (124, I, J, R)) rfl ?_
  refine ev_go 4 (pc1 := 24) (lv1 := [.ref 63, .ref 3, .int n, .int p, .int q]) (st1 := [.int 1, .int (((I 66 6) >>> (p &&& 31)) &&& 1)]) (h1 := (124, I, J, R)) rfl ?_
  refine ev_br (b1 := false) rfl rfl (xcd_nne (x := (((I 66 6) >>> (p &&& 31)) &&& 1)) (y := 1) (by rw [show ((1 : Int32)).toInt = 1 from by decide]; first | exact b2 | omega)) ?_
  refine ev_go 1 (pc1 := 28) (lv1 := [.ref 63, .ref 3, .int n, .int p, .int q]) (st1 := [.ref 63]) (h1 := (124, I, J, R)) rfl ?_
  refine ev_gf (c := 63) (t := 66) (X := R 63 3) rfl rfl (fun _ => rfl) rfl (hG 63 3 66 rfl rfl) ?_
  refine ev_go 2 (pc1 := 36) (lv1 := [.ref 63, .ref 3, .int n, .int p, .int q]) (st1 := [.int q, .int (I 66 6)]) (h1 := (124, I, J, R)) rfl ?_
  refine ev_go 4 (pc1 := 40) (lv1 := [.ref 63, .ref 3, .int n, .int p, .int q]) (st1 := [.int 1, .int (((I 66 6) >>> (q &&& 31)) &&& 1)]) (h1 := (124, I, J, R)) rfl ?_
  refine ev_br (b1 := true) rfl rfl (xcd_ne (x := (((I 66 6) >>> (q &&& 31)) &&& 1)) (y := 1) (by rw [show ((1 : Int32)).toInt = 1 from by decide]; first | exact b3 | omega)) ?_
  refine ev_go 1 (pc1 := 88) (lv1 := [.ref 63, .ref 3, .int n, .int p, .int q]) (st1 := [.int 0]) (h1 := (124, I, J, R)) rfl ?_
  exact ev_ret rfl rfl
set_option maxRecDepth 20000 in
theorem um3_3 {L : Nat} {xs : Nat → Int32} {d : Nat} {I : Nat → Nat → Int32} {J : Nat → Nat → Int64} {R : Nat → Nat → Nat} {n p q f g : Int32} (hG : aGd R) (c1 : xEv L xs d 39 0 [.ref 12, .int n] [] (124, I, J, R) (some (.int f)) (124, I, J, R)) (b1 : p.toInt ≠ f.toInt) (b2 : (((I 66 6) >>> (p &&& 31)) &&& 1).toInt = 1) (b3 : (((I 66 6) >>> (q &&& 31)) &&& 1).toInt = 1) (c2 : xEv L xs d 39 0 [.ref 15, .int n] [] (124, I, J, R) (some (.int g)) (124, I, J, R)) (b4 : ((g >>> (q &&& 31)) &&& 1).toInt ≠ 0) : xEv L xs (d + 1) 127 0 [.ref 63, .ref 3, .int n, .int p, .int q] [] (124, I, J, R) (some (.int 0)) (124, I, J, R) := by
  refine ev_go 2 (pc1 := 2) (lv1 := [.ref 63, .ref 3, .int n, .int p, .int q]) (st1 := [.ref 3, .int p]) (h1 := (124, I, J, R)) rfl ?_
  refine ev_gf (c := 3) (t := 12) (X := R 3 8) rfl rfl (fun _ => rfl) rfl (hG 3 8 12 rfl rfl) ?_
  refine ev_go 1 (pc1 := 6) (lv1 := [.ref 63, .ref 3, .int n, .int p, .int q]) (st1 := [.int n, .ref 12, .int p]) (h1 := (124, I, J, R)) rfl ?_
  refine ev_call (v1 := (some (.int f))) (h1 := (124, I, J, R)) rfl rfl c1 ?_
  refine ev_br (b1 := false) rfl rfl (xcd_neq (x := p) (y := f) (by first | exact b1 | omega)) ?_
  refine ev_go 1 (pc1 := 13) (lv1 := [.ref 63, .ref 3, .int n, .int p, .int q]) (st1 := [.ref 63]) (h1 := (124, I, J, R)) rfl ?_
  refine ev_gf (c := 63) (t := 66) (X := R 63 3) rfl rfl (fun _ => rfl) rfl (hG 63 3 66 rfl rfl) ?_
  refine ev_go 2 (pc1 := 20) (lv1 := [.ref 63, .ref 3, .int n, .int p, .int q]) (st1 := [.int p, .int (I 66 6)]) (h1 := (124, I, J, R)) rfl ?_
  refine ev_go 4 (pc1 := 24) (lv1 := [.ref 63, .ref 3, .int n, .int p, .int q]) (st1 := [.int 1, .int (((I 66 6) >>> (p &&& 31)) &&& 1)]) (h1 := (124, I, J, R)) rfl ?_
  refine ev_br (b1 := false) rfl rfl (xcd_nne (x := (((I 66 6) >>> (p &&& 31)) &&& 1)) (y := 1) (by rw [show ((1 : Int32)).toInt = 1 from by decide]; first | exact b2 | omega)) ?_
  refine ev_go 1 (pc1 := 28) (lv1 := [.ref 63, .ref 3, .int n, .int p, .int q]) (st1 := [.ref 63]) (h1 := (124, I, J, R)) rfl ?_
  refine ev_gf (c := 63) (t := 66) (X := R 63 3) rfl rfl (fun _ => rfl) rfl (hG 63 3 66 rfl rfl) ?_
  refine ev_go 2 (pc1 := 36) (lv1 := [.ref 63, .ref 3, .int n, .int p, .int q]) (st1 := [.int q, .int (I 66 6)]) (h1 := (124, I, J, R)) rfl ?_
  refine ev_go 4 (pc1 := 40) (lv1 := [.ref 63, .ref 3, .int n, .int p, .int q]) (st1 := [.int 1, .int (((I 66 6) >>> (q &&& 31)) &&& 1)]) (h1 := (124, I, J, R)) rfl ?_
  refine ev_br (b1 := false) rfl rfl (xcd_nne (x := (((I 66 6) >>> (q &&& 31)) &&& 1)) (y := 1) (by rw [show ((1 : Int32)).toInt = 1 from by decide]; first | exact b3 | omega)) ?_
  refine ev_go 1 (pc1 := 44) (lv1 := [.ref 63, .ref 3, .int n, .int p, .int q]) (st1 := [.ref 3]) (h1 := (124, I, J, R)) rfl ?_
  refine ev_gf (c := 3) (t := 15) (X := R 3 11) rfl rfl (fun _ => rfl) rfl (hG 3 11 15 rfl rfl) ?_
  refine ev_go 1 (pc1 := 48) (lv1 := [.ref 63, .ref 3, .int n, .int p, .int q]) (st1 := [.int n, .ref 15]) (h1 := (124, I, J, R)) rfl ?_
  refine ev_call (v1 := (some (.int g))) (h1 := (124, I, J, R)) rfl rfl c2 ?_
  refine ev_go 1 (pc1 := 53) (lv1 := [.ref 63, .ref 3, .int n, .int p, .int q]) (st1 := [.int q, .int g]) (h1 := (124, I, J, R)) rfl ?_
  refine ev_go 3 (pc1 := 56) (lv1 := [.ref 63, .ref 3, .int n, .int p, .int q]) (st1 := [.int ((g >>> (q &&& 31)) &&& 1)]) (h1 := (124, I, J, R)) rfl ?_
  refine ev_br (b1 := true) rfl rfl (xcd_ne (x := ((g >>> (q &&& 31)) &&& 1)) (y := 0) (by rw [show ((0 : Int32)).toInt = 0 from by decide]; first | exact b4 | omega)) ?_
  refine ev_go 1 (pc1 := 88) (lv1 := [.ref 63, .ref 3, .int n, .int p, .int q]) (st1 := [.int 0]) (h1 := (124, I, J, R)) rfl ?_
  exact ev_ret rfl rfl
set_option maxRecDepth 20000 in
theorem um4_3 {L : Nat} {xs : Nat → Int32} {d : Nat} {I : Nat → Nat → Int32} {J : Nat → Nat → Int64} {R : Nat → Nat → Nat} {n p q f g s c o : Int32} (hG : aGd R) (c1 : xEv L xs d 39 0 [.ref 12, .int n] [] (124, I, J, R) (some (.int f)) (124, I, J, R)) (b1 : p.toInt ≠ f.toInt) (b2 : (((I 66 6) >>> (p &&& 31)) &&& 1).toInt = 1) (b3 : (((I 66 6) >>> (q &&& 31)) &&& 1).toInt = 1) (c2 : xEv L xs d 39 0 [.ref 15, .int n] [] (124, I, J, R) (some (.int g)) (124, I, J, R)) (b4 : ((g >>> (q &&& 31)) &&& 1).toInt = 0) (c3 : xEv L xs d 125 0 [.ref 66, .int q, xmk, xmk] [] (124, I, J, R) (some (.int s)) (124, I, J, R)) (c4 : xEv L xs d 90 0 [.int s] [] (124, I, J, R) (some (.int c)) (124, I, J, R)) (c5 : xEv L xs d 39 0 [.ref 5, .int q] [] (124, I, J, R) (some (.int o)) (124, I, J, R)) (b5 : c.toInt ≥ o.toInt) : xEv L xs (d + 1) 127 0 [.ref 63, .ref 3, .int n, .int p, .int q] [] (124, I, J, R) (some (.int 0)) (124, I, J, R) := by
  refine ev_go 2 (pc1 := 2) (lv1 := [.ref 63, .ref 3, .int n, .int p, .int q]) (st1 := [.ref 3, .int p]) (h1 := (124, I, J, R)) rfl ?_
  refine ev_gf (c := 3) (t := 12) (X := R 3 8) rfl rfl (fun _ => rfl) rfl (hG 3 8 12 rfl rfl) ?_
  refine ev_go 1 (pc1 := 6) (lv1 := [.ref 63, .ref 3, .int n, .int p, .int q]) (st1 := [.int n, .ref 12, .int p]) (h1 := (124, I, J, R)) rfl ?_
  refine ev_call (v1 := (some (.int f))) (h1 := (124, I, J, R)) rfl rfl c1 ?_
  refine ev_br (b1 := false) rfl rfl (xcd_neq (x := p) (y := f) (by first | exact b1 | omega)) ?_
  refine ev_go 1 (pc1 := 13) (lv1 := [.ref 63, .ref 3, .int n, .int p, .int q]) (st1 := [.ref 63]) (h1 := (124, I, J, R)) rfl ?_
  refine ev_gf (c := 63) (t := 66) (X := R 63 3) rfl rfl (fun _ => rfl) rfl (hG 63 3 66 rfl rfl) ?_
  refine ev_go 2 (pc1 := 20) (lv1 := [.ref 63, .ref 3, .int n, .int p, .int q]) (st1 := [.int p, .int (I 66 6)]) (h1 := (124, I, J, R)) rfl ?_
  refine ev_go 4 (pc1 := 24) (lv1 := [.ref 63, .ref 3, .int n, .int p, .int q]) (st1 := [.int 1, .int (((I 66 6) >>> (p &&& 31)) &&& 1)]) (h1 := (124, I, J, R)) rfl ?_
  refine ev_br (b1 := false) rfl rfl (xcd_nne (x := (((I 66 6) >>> (p &&& 31)) &&& 1)) (y := 1) (by rw [show ((1 : Int32)).toInt = 1 from by decide]; first | exact b2 | omega)) ?_
  refine ev_go 1 (pc1 := 28) (lv1 := [.ref 63, .ref 3, .int n, .int p, .int q]) (st1 := [.ref 63]) (h1 := (124, I, J, R)) rfl ?_
  refine ev_gf (c := 63) (t := 66) (X := R 63 3) rfl rfl (fun _ => rfl) rfl (hG 63 3 66 rfl rfl) ?_
  refine ev_go 2 (pc1 := 36) (lv1 := [.ref 63, .ref 3, .int n, .int p, .int q]) (st1 := [.int q, .int (I 66 6)]) (h1 := (124, I, J, R)) rfl ?_
  refine ev_go 4 (pc1 := 40) (lv1 := [.ref 63, .ref 3, .int n, .int p, .int q]) (st1 := [.int 1, .int (((I 66 6) >>> (q &&& 31)) &&& 1)]) (h1 := (124, I, J, R)) rfl ?_
  refine ev_br (b1 := false) rfl rfl (xcd_nne (x := (((I 66 6) >>> (q &&& 31)) &&& 1)) (y := 1) (by rw [show ((1 : Int32)).toInt = 1 from by decide]; first | exact b3 | omega)) ?_
  refine ev_go 1 (pc1 := 44) (lv1 := [.ref 63, .ref 3, .int n, .int p, .int q]) (st1 := [.ref 3]) (h1 := (124, I, J, R)) rfl ?_
  refine ev_gf (c := 3) (t := 15) (X := R 3 11) rfl rfl (fun _ => rfl) rfl (hG 3 11 15 rfl rfl) ?_
  refine ev_go 1 (pc1 := 48) (lv1 := [.ref 63, .ref 3, .int n, .int p, .int q]) (st1 := [.int n, .ref 15]) (h1 := (124, I, J, R)) rfl ?_
  refine ev_call (v1 := (some (.int g))) (h1 := (124, I, J, R)) rfl rfl c2 ?_
  refine ev_go 1 (pc1 := 53) (lv1 := [.ref 63, .ref 3, .int n, .int p, .int q]) (st1 := [.int q, .int g]) (h1 := (124, I, J, R)) rfl ?_
  refine ev_go 3 (pc1 := 56) (lv1 := [.ref 63, .ref 3, .int n, .int p, .int q]) (st1 := [.int ((g >>> (q &&& 31)) &&& 1)]) (h1 := (124, I, J, R)) rfl ?_
  refine ev_br (b1 := false) rfl rfl (xcd_nne (x := ((g >>> (q &&& 31)) &&& 1)) (y := 0) (by rw [show ((0 : Int32)).toInt = 0 from by decide]; first | exact b4 | omega)) ?_
  refine ev_go 1 (pc1 := 60) (lv1 := [.ref 63, .ref 3, .int n, .int p, .int q]) (st1 := [.ref 63]) (h1 := (124, I, J, R)) rfl ?_
  refine ev_gf (c := 63) (t := 66) (X := R 63 3) rfl rfl (fun _ => rfl) rfl (hG 63 3 66 rfl rfl) ?_
  refine ev_go 1 (pc1 := 65) (lv1 := [.ref 63, .ref 3, .int n, .int p, .int q]) (st1 := [.int q, .ref 66]) (h1 := (124, I, J, R)) rfl ?_
  refine ev_call (v1 := (some (.int s))) (h1 := (124, I, J, R)) rfl rfl c3 ?_
  refine ev_call (v1 := (some (.int c))) (h1 := (124, I, J, R)) rfl rfl c4 ?_
  refine ev_go 1 (pc1 := 72) (lv1 := [.ref 63, .ref 3, .int n, .int p, .int q]) (st1 := [.ref 3, .int c]) (h1 := (124, I, J, R)) rfl ?_
  refine ev_gf (c := 3) (t := 5) (X := R 3 1) rfl rfl (fun _ => rfl) rfl (hG 3 1 5 rfl rfl) ?_
  refine ev_go 1 (pc1 := 77) (lv1 := [.ref 63, .ref 3, .int n, .int p, .int q]) (st1 := [.int q, .ref 5, .int c]) (h1 := (124, I, J, R)) rfl ?_
  refine ev_call (v1 := (some (.int o))) (h1 := (124, I, J, R)) rfl rfl c5 ?_
  refine ev_br (b1 := true) rfl rfl (xcd_ge (x := c) (y := o) (by first | exact b5 | omega)) ?_
  refine ev_go 1 (pc1 := 88) (lv1 := [.ref 63, .ref 3, .int n, .int p, .int q]) (st1 := [.int 0]) (h1 := (124, I, J, R)) rfl ?_
  exact ev_ret rfl rfl
set_option maxRecDepth 20000 in
theorem um5_3 {L : Nat} {xs : Nat → Int32} {d : Nat} {I : Nat → Nat → Int32} {J : Nat → Nat → Int64} {R : Nat → Nat → Nat} {n p q f g s c o : Int32} (hG : aGd R) (c1 : xEv L xs d 39 0 [.ref 12, .int n] [] (124, I, J, R) (some (.int f)) (124, I, J, R)) (b1 : p.toInt ≠ f.toInt) (b2 : (((I 66 6) >>> (p &&& 31)) &&& 1).toInt = 1) (b3 : (((I 66 6) >>> (q &&& 31)) &&& 1).toInt = 1) (c2 : xEv L xs d 39 0 [.ref 15, .int n] [] (124, I, J, R) (some (.int g)) (124, I, J, R)) (b4 : ((g >>> (q &&& 31)) &&& 1).toInt = 0) (c3 : xEv L xs d 125 0 [.ref 66, .int q, xmk, xmk] [] (124, I, J, R) (some (.int s)) (124, I, J, R)) (c4 : xEv L xs d 90 0 [.int s] [] (124, I, J, R) (some (.int c)) (124, I, J, R)) (c5 : xEv L xs d 39 0 [.ref 5, .int q] [] (124, I, J, R) (some (.int o)) (124, I, J, R)) (b5 : c.toInt < o.toInt) : xEv L xs (d + 1) 127 0 [.ref 63, .ref 3, .int n, .int p, .int q] [] (124, I, J, R) (some (.int 1)) (124, I, J, R) := by
  refine ev_go 2 (pc1 := 2) (lv1 := [.ref 63, .ref 3, .int n, .int p, .int q]) (st1 := [.ref 3, .int p]) (h1 := (124, I, J, R)) rfl ?_
  refine ev_gf (c := 3) (t := 12) (X := R 3 8) rfl rfl (fun _ => rfl) rfl (hG 3 8 12 rfl rfl) ?_
  refine ev_go 1 (pc1 := 6) (lv1 := [.ref 63, .ref 3, .int n, .int p, .int q]) (st1 := [.int n, .ref 12, .int p]) (h1 := (124, I, J, R)) rfl ?_
  refine ev_call (v1 := (some (.int f))) (h1 := (124, I, J, R)) rfl rfl c1 ?_
  refine ev_br (b1 := false) rfl rfl (xcd_neq (x := p) (y := f) (by first | exact b1 | omega)) ?_
  refine ev_go 1 (pc1 := 13) (lv1 := [.ref 63, .ref 3, .int n, .int p, .int q]) (st1 := [.ref 63]) (h1 := (124, I, J, R)) rfl ?_
  refine ev_gf (c := 63) (t := 66) (X := R 63 3) rfl rfl (fun _ => rfl) rfl (hG 63 3 66 rfl rfl) ?_
  refine ev_go 2 (pc1 := 20) (lv1 := [.ref 63, .ref 3, .int n, .int p, .int q]) (st1 := [.int p, .int (I 66 6)]) (h1 := (124, I, J, R)) rfl ?_
  refine ev_go 4 (pc1 := 24) (lv1 := [.ref 63, .ref 3, .int n, .int p, .int q]) (st1 := [.int 1, .int (((I 66 6) >>> (p &&& 31)) &&& 1)]) (h1 := (124, I, J, R)) rfl ?_
  refine ev_br (b1 := false) rfl rfl (xcd_nne (x := (((I 66 6) >>> (p &&& 31)) &&& 1)) (y := 1) (by rw [show ((1 : Int32)).toInt = 1 from by decide]; first | exact b2 | omega)) ?_
  refine ev_go 1 (pc1 := 28) (lv1 := [.ref 63, .ref 3, .int n, .int p, .int q]) (st1 := [.ref 63]) (h1 := (124, I, J, R)) rfl ?_
  refine ev_gf (c := 63) (t := 66) (X := R 63 3) rfl rfl (fun _ => rfl) rfl (hG 63 3 66 rfl rfl) ?_
  refine ev_go 2 (pc1 := 36) (lv1 := [.ref 63, .ref 3, .int n, .int p, .int q]) (st1 := [.int q, .int (I 66 6)]) (h1 := (124, I, J, R)) rfl ?_
  refine ev_go 4 (pc1 := 40) (lv1 := [.ref 63, .ref 3, .int n, .int p, .int q]) (st1 := [.int 1, .int (((I 66 6) >>> (q &&& 31)) &&& 1)]) (h1 := (124, I, J, R)) rfl ?_
  refine ev_br (b1 := false) rfl rfl (xcd_nne (x := (((I 66 6) >>> (q &&& 31)) &&& 1)) (y := 1) (by rw [show ((1 : Int32)).toInt = 1 from by decide]; first | exact b3 | omega)) ?_
  refine ev_go 1 (pc1 := 44) (lv1 := [.ref 63, .ref 3, .int n, .int p, .int q]) (st1 := [.ref 3]) (h1 := (124, I, J, R)) rfl ?_
  refine ev_gf (c := 3) (t := 15) (X := R 3 11) rfl rfl (fun _ => rfl) rfl (hG 3 11 15 rfl rfl) ?_
  refine ev_go 1 (pc1 := 48) (lv1 := [.ref 63, .ref 3, .int n, .int p, .int q]) (st1 := [.int n, .ref 15]) (h1 := (124, I, J, R)) rfl ?_
  refine ev_call (v1 := (some (.int g))) (h1 := (124, I, J, R)) rfl rfl c2 ?_
  refine ev_go 1 (pc1 := 53) (lv1 := [.ref 63, .ref 3, .int n, .int p, .int q]) (st1 := [.int q, .int g]) (h1 := (124, I, J, R)) rfl ?_
  refine ev_go 3 (pc1 := 56) (lv1 := [.ref 63, .ref 3, .int n, .int p, .int q]) (st1 := [.int ((g >>> (q &&& 31)) &&& 1)]) (h1 := (124, I, J, R)) rfl ?_
  refine ev_br (b1 := false) rfl rfl (xcd_nne (x := ((g >>> (q &&& 31)) &&& 1)) (y := 0) (by rw [show ((0 : Int32)).toInt = 0 from by decide]; first | exact b4 | omega)) ?_
  refine ev_go 1 (pc1 := 60) (lv1 := [.ref 63, .ref 3, .int n, .int p, .int q]) (st1 := [.ref 63]) (h1 := (124, I, J, R)) rfl ?_
  refine ev_gf (c := 63) (t := 66) (X := R 63 3) rfl rfl (fun _ => rfl) rfl (hG 63 3 66 rfl rfl) ?_
  refine ev_go 1 (pc1 := 65) (lv1 := [.ref 63, .ref 3, .int n, .int p, .int q]) (st1 := [.int q, .ref 66]) (h1 := (124, I, J, R)) rfl ?_
  refine ev_call (v1 := (some (.int s))) (h1 := (124, I, J, R)) rfl rfl c3 ?_
  refine ev_call (v1 := (some (.int c))) (h1 := (124, I, J, R)) rfl rfl c4 ?_
  refine ev_go 1 (pc1 := 72) (lv1 := [.ref 63, .ref 3, .int n, .int p, .int q]) (st1 := [.ref 3, .int c]) (h1 := (124, I, J, R)) rfl ?_
  refine ev_gf (c := 3) (t := 5) (X := R 3 1) rfl rfl (fun _ => rfl) rfl (hG 3 1 5 rfl rfl) ?_
  refine ev_go 1 (pc1 := 77) (lv1 := [.ref 63, .ref 3, .int n, .int p, .int q]) (st1 := [.int q, .ref 5, .int c]) (h1 := (124, I, J, R)) rfl ?_
  refine ev_call (v1 := (some (.int o))) (h1 := (124, I, J, R)) rfl rfl c5 ?_
  refine ev_br (b1 := false) rfl rfl (xcd_nge (x := c) (y := o) (by first | exact b5 | omega)) ?_
  refine ev_go 2 (pc1 := 88) (lv1 := [.ref 63, .ref 3, .int n, .int p, .int q]) (st1 := [.int 1]) (h1 := (124, I, J, R)) rfl ?_
  exact ev_ret rfl rfl
set_option maxRecDepth 20000 in
theorem uw0_3 {L : Nat} {xs : Nat → Int32} {d : Nat} {I : Nat → Nat → Int32} {J : Nat → Nat → Int64} {R : Nat → Nat → Nat} {n p q br f k : Int32} (hG : aGd R) (c1 : xEv L xs d 39 0 [.ref 15, .int n] [] (124, I, J, R) (some (.int br)) (124, I, J, R)) (c2 : xEv L xs d 39 0 [.ref 12, .int n] [] (124, I, J, R) (some (.int f)) (124, I, J, R)) (c3 : xEv L xs d 39 0 [.ref 64, .int p] [] (124, I, J, R) (some (.int k)) (124, I, J, R)) (b1 : k.toInt < 1 ∨ 5 < k.toInt) : xEv L xs (d + 1) 128 0 [.ref 63, .ref 3, .int n, .int p, .int q, xmk, xmk, xmk, xmk, xmk, xmk] [] (124, I, J, R) (some (.int 0)) (124, I, J, R) := by
  refine ev_go 1 (pc1 := 1) (lv1 := [.ref 63, .ref 3, .int n, .int p, .int q, xmk, xmk, xmk, xmk, xmk, xmk]) (st1 := [.ref 3]) (h1 := (124, I, J, R)) rfl ?_
  refine ev_gf (c := 3) (t := 17) (X := R 3 13) rfl rfl (fun _ => rfl) rfl (hG 3 13 17 rfl rfl) ?_
  refine ev_go 2 (pc1 := 7) (lv1 := [.ref 63, .ref 3, .int n, .int p, .int q, .ref 17, xmk, xmk, xmk, xmk, xmk]) (st1 := [.ref 3]) (h1 := (124, I, J, R)) rfl ?_
  refine ev_gf (c := 3) (t := 15) (X := R 3 11) rfl rfl (fun _ => rfl) rfl (hG 3 11 15 rfl rfl) ?_
  refine ev_go 1 (pc1 := 11) (lv1 := [.ref 63, .ref 3, .int n, .int p, .int q, .ref 17, xmk, xmk, xmk, xmk, xmk]) (st1 := [.int n, .ref 15]) (h1 := (124, I, J, R)) rfl ?_
  refine ev_call (v1 := (some (.int br))) (h1 := (124, I, J, R)) rfl rfl c1 ?_
  refine ev_go 2 (pc1 := 17) (lv1 := [.ref 63, .ref 3, .int n, .int p, .int q, .ref 17, .int br, xmk, xmk, xmk, xmk]) (st1 := [.ref 3]) (h1 := (124, I, J, R)) rfl ?_
  refine ev_gf (c := 3) (t := 12) (X := R 3 8) rfl rfl (fun _ => rfl) rfl (hG 3 8 12 rfl rfl) ?_
  refine ev_go 1 (pc1 := 21) (lv1 := [.ref 63, .ref 3, .int n, .int p, .int q, .ref 17, .int br, xmk, xmk, xmk, xmk]) (st1 := [.int n, .ref 12]) (h1 := (124, I, J, R)) rfl ?_
  refine ev_call (v1 := (some (.int f))) (h1 := (124, I, J, R)) rfl rfl c2 ?_
  refine ev_go 2 (pc1 := 27) (lv1 := [.ref 63, .ref 3, .int n, .int p, .int q, .ref 17, .int br, .int f, xmk, xmk, xmk]) (st1 := [.ref 63]) (h1 := (124, I, J, R)) rfl ?_
  refine ev_gf (c := 63) (t := 66) (X := R 63 3) rfl rfl (fun _ => rfl) rfl (hG 63 3 66 rfl rfl) ?_
  refine ev_go 5 (pc1 := 38) (lv1 := [.ref 63, .ref 3, .int n, .int p, .int q, .ref 17, .int br, .int f, .int ((I 66 5) + 1), xmk, xmk]) (st1 := [.ref 63]) (h1 := (124, I, J, R)) rfl ?_
  refine ev_gf (c := 63) (t := 64) (X := R 63 0) rfl rfl (fun _ => rfl) rfl (hG 63 0 64 rfl rfl) ?_
  refine ev_go 1 (pc1 := 42) (lv1 := [.ref 63, .ref 3, .int n, .int p, .int q, .ref 17, .int br, .int f, .int ((I 66 5) + 1), xmk, xmk]) (st1 := [.int p, .ref 64]) (h1 := (124, I, J, R)) rfl ?_
  refine ev_call (v1 := (some (.int k))) (h1 := (124, I, J, R)) rfl rfl c3 ?_
  refine ev_tab (x := k) (t := 233) rfl rfl b1 rfl ?_
  refine ev_go 1 (pc1 := 234) (lv1 := [.ref 63, .ref 3, .int n, .int p, .int q, .ref 17, .int br, .int f, .int ((I 66 5) + 1), xmk, xmk]) (st1 := [.int 0]) (h1 := (124, I, J, R)) rfl ?_
  exact ev_ret rfl rfl
set_option maxRecDepth 20000 in
theorem uw1n_3 {L : Nat} {xs : Nat → Int32} {d : Nat} {I : Nat → Nat → Int32} {J : Nat → Nat → Int64} {R : Nat → Nat → Nat} {n p q br f k m : Int32} (hG : aGd R) (c1 : xEv L xs d 39 0 [.ref 15, .int n] [] (124, I, J, R) (some (.int br)) (124, I, J, R)) (c2 : xEv L xs d 39 0 [.ref 12, .int n] [] (124, I, J, R) (some (.int f)) (124, I, J, R)) (c3 : xEv L xs d 39 0 [.ref 64, .int p] [] (124, I, J, R) (some (.int k)) (124, I, J, R)) (b1 : k.toInt = 1) (c4 : xEv L xs d 39 0 [.ref 65, .int p] [] (124, I, J, R) (some (.int m)) (124, I, J, R)) (b2 : q.toInt ≠ m.toInt) : xEv L xs (d + 1) 128 0 [.ref 63, .ref 3, .int n, .int p, .int q, xmk, xmk, xmk, xmk, xmk, xmk] [] (124, I, J, R) (some (.int 0)) (124, I, J, R) := by
  refine ev_go 1 (pc1 := 1) (lv1 := [.ref 63, .ref 3, .int n, .int p, .int q, xmk, xmk, xmk, xmk, xmk, xmk]) (st1 := [.ref 3]) (h1 := (124, I, J, R)) rfl ?_
  refine ev_gf (c := 3) (t := 17) (X := R 3 13) rfl rfl (fun _ => rfl) rfl (hG 3 13 17 rfl rfl) ?_
  refine ev_go 2 (pc1 := 7) (lv1 := [.ref 63, .ref 3, .int n, .int p, .int q, .ref 17, xmk, xmk, xmk, xmk, xmk]) (st1 := [.ref 3]) (h1 := (124, I, J, R)) rfl ?_
  refine ev_gf (c := 3) (t := 15) (X := R 3 11) rfl rfl (fun _ => rfl) rfl (hG 3 11 15 rfl rfl) ?_
  refine ev_go 1 (pc1 := 11) (lv1 := [.ref 63, .ref 3, .int n, .int p, .int q, .ref 17, xmk, xmk, xmk, xmk, xmk]) (st1 := [.int n, .ref 15]) (h1 := (124, I, J, R)) rfl ?_
  refine ev_call (v1 := (some (.int br))) (h1 := (124, I, J, R)) rfl rfl c1 ?_
  refine ev_go 2 (pc1 := 17) (lv1 := [.ref 63, .ref 3, .int n, .int p, .int q, .ref 17, .int br, xmk, xmk, xmk, xmk]) (st1 := [.ref 3]) (h1 := (124, I, J, R)) rfl ?_
  refine ev_gf (c := 3) (t := 12) (X := R 3 8) rfl rfl (fun _ => rfl) rfl (hG 3 8 12 rfl rfl) ?_
  refine ev_go 1 (pc1 := 21) (lv1 := [.ref 63, .ref 3, .int n, .int p, .int q, .ref 17, .int br, xmk, xmk, xmk, xmk]) (st1 := [.int n, .ref 12]) (h1 := (124, I, J, R)) rfl ?_
  refine ev_call (v1 := (some (.int f))) (h1 := (124, I, J, R)) rfl rfl c2 ?_
  refine ev_go 2 (pc1 := 27) (lv1 := [.ref 63, .ref 3, .int n, .int p, .int q, .ref 17, .int br, .int f, xmk, xmk, xmk]) (st1 := [.ref 63]) (h1 := (124, I, J, R)) rfl ?_
  refine ev_gf (c := 63) (t := 66) (X := R 63 3) rfl rfl (fun _ => rfl) rfl (hG 63 3 66 rfl rfl) ?_
  refine ev_go 5 (pc1 := 38) (lv1 := [.ref 63, .ref 3, .int n, .int p, .int q, .ref 17, .int br, .int f, .int ((I 66 5) + 1), xmk, xmk]) (st1 := [.ref 63]) (h1 := (124, I, J, R)) rfl ?_
  refine ev_gf (c := 63) (t := 64) (X := R 63 0) rfl rfl (fun _ => rfl) rfl (hG 63 0 64 rfl rfl) ?_
  refine ev_go 1 (pc1 := 42) (lv1 := [.ref 63, .ref 3, .int n, .int p, .int q, .ref 17, .int br, .int f, .int ((I 66 5) + 1), xmk, xmk]) (st1 := [.int p, .ref 64]) (h1 := (124, I, J, R)) rfl ?_
  refine ev_call (v1 := (some (.int k))) (h1 := (124, I, J, R)) rfl rfl c3 ?_
  refine ev_tk (x := k) (z := 1) (t := 80) rfl rfl b1 (by decide) rfl rfl ?_
  refine ev_go 2 (pc1 := 83) (lv1 := [.ref 63, .ref 3, .int n, .int p, .int q, .ref 17, .int br, .int f, .int ((I 66 5) + 1), xmk, xmk]) (st1 := [.ref 63, .int q]) (h1 := (124, I, J, R)) rfl ?_
  refine ev_gf (c := 63) (t := 65) (X := R 63 1) rfl rfl (fun _ => rfl) rfl (hG 63 1 65 rfl rfl) ?_
  refine ev_go 1 (pc1 := 87) (lv1 := [.ref 63, .ref 3, .int n, .int p, .int q, .ref 17, .int br, .int f, .int ((I 66 5) + 1), xmk, xmk]) (st1 := [.int p, .ref 65, .int q]) (h1 := (124, I, J, R)) rfl ?_
  refine ev_call (v1 := (some (.int m))) (h1 := (124, I, J, R)) rfl rfl c4 ?_
  refine ev_br (b1 := true) rfl rfl (xcd_ne (x := q) (y := m) (by first | exact b2 | omega)) ?_
  refine ev_go 1 (pc1 := 98) (lv1 := [.ref 63, .ref 3, .int n, .int p, .int q, .ref 17, .int br, .int f, .int ((I 66 5) + 1), xmk, xmk]) (st1 := [.int 0]) (h1 := (124, I, J, R)) rfl ?_
  exact ev_ret rfl rfl
set_option maxRecDepth 20000 in
theorem uw1y_3 {L : Nat} {xs : Nat → Int32} {d : Nat} {I : Nat → Nat → Int32} {J : Nat → Nat → Int64} {R : Nat → Nat → Nat} {n p q br f k m : Int32} (hG : aGd R) (c1 : xEv L xs d 39 0 [.ref 15, .int n] [] (124, I, J, R) (some (.int br)) (124, I, J, R)) (c2 : xEv L xs d 39 0 [.ref 12, .int n] [] (124, I, J, R) (some (.int f)) (124, I, J, R)) (c3 : xEv L xs d 39 0 [.ref 64, .int p] [] (124, I, J, R) (some (.int k)) (124, I, J, R)) (b1 : k.toInt = 1) (c4 : xEv L xs d 39 0 [.ref 65, .int p] [] (124, I, J, R) (some (.int m)) (124, I, J, R)) (b2 : q.toInt = m.toInt) : xEv L xs (d + 1) 128 0 [.ref 63, .ref 3, .int n, .int p, .int q, xmk, xmk, xmk, xmk, xmk, xmk] [] (124, I, J, R) (some (.int 1)) (124, I, J, R) := by
  refine ev_go 1 (pc1 := 1) (lv1 := [.ref 63, .ref 3, .int n, .int p, .int q, xmk, xmk, xmk, xmk, xmk, xmk]) (st1 := [.ref 3]) (h1 := (124, I, J, R)) rfl ?_
  refine ev_gf (c := 3) (t := 17) (X := R 3 13) rfl rfl (fun _ => rfl) rfl (hG 3 13 17 rfl rfl) ?_
  refine ev_go 2 (pc1 := 7) (lv1 := [.ref 63, .ref 3, .int n, .int p, .int q, .ref 17, xmk, xmk, xmk, xmk, xmk]) (st1 := [.ref 3]) (h1 := (124, I, J, R)) rfl ?_
  refine ev_gf (c := 3) (t := 15) (X := R 3 11) rfl rfl (fun _ => rfl) rfl (hG 3 11 15 rfl rfl) ?_
  refine ev_go 1 (pc1 := 11) (lv1 := [.ref 63, .ref 3, .int n, .int p, .int q, .ref 17, xmk, xmk, xmk, xmk, xmk]) (st1 := [.int n, .ref 15]) (h1 := (124, I, J, R)) rfl ?_
  refine ev_call (v1 := (some (.int br))) (h1 := (124, I, J, R)) rfl rfl c1 ?_
  refine ev_go 2 (pc1 := 17) (lv1 := [.ref 63, .ref 3, .int n, .int p, .int q, .ref 17, .int br, xmk, xmk, xmk, xmk]) (st1 := [.ref 3]) (h1 := (124, I, J, R)) rfl ?_
  refine ev_gf (c := 3) (t := 12) (X := R 3 8) rfl rfl (fun _ => rfl) rfl (hG 3 8 12 rfl rfl) ?_
  refine ev_go 1 (pc1 := 21) (lv1 := [.ref 63, .ref 3, .int n, .int p, .int q, .ref 17, .int br, xmk, xmk, xmk, xmk]) (st1 := [.int n, .ref 12]) (h1 := (124, I, J, R)) rfl ?_
  refine ev_call (v1 := (some (.int f))) (h1 := (124, I, J, R)) rfl rfl c2 ?_
  refine ev_go 2 (pc1 := 27) (lv1 := [.ref 63, .ref 3, .int n, .int p, .int q, .ref 17, .int br, .int f, xmk, xmk, xmk]) (st1 := [.ref 63]) (h1 := (124, I, J, R)) rfl ?_
  refine ev_gf (c := 63) (t := 66) (X := R 63 3) rfl rfl (fun _ => rfl) rfl (hG 63 3 66 rfl rfl) ?_
  refine ev_go 5 (pc1 := 38) (lv1 := [.ref 63, .ref 3, .int n, .int p, .int q, .ref 17, .int br, .int f, .int ((I 66 5) + 1), xmk, xmk]) (st1 := [.ref 63]) (h1 := (124, I, J, R)) rfl ?_
  refine ev_gf (c := 63) (t := 64) (X := R 63 0) rfl rfl (fun _ => rfl) rfl (hG 63 0 64 rfl rfl) ?_
  refine ev_go 1 (pc1 := 42) (lv1 := [.ref 63, .ref 3, .int n, .int p, .int q, .ref 17, .int br, .int f, .int ((I 66 5) + 1), xmk, xmk]) (st1 := [.int p, .ref 64]) (h1 := (124, I, J, R)) rfl ?_
  refine ev_call (v1 := (some (.int k))) (h1 := (124, I, J, R)) rfl rfl c3 ?_
  refine ev_tk (x := k) (z := 1) (t := 80) rfl rfl b1 (by decide) rfl rfl ?_
  refine ev_go 2 (pc1 := 83) (lv1 := [.ref 63, .ref 3, .int n, .int p, .int q, .ref 17, .int br, .int f, .int ((I 66 5) + 1), xmk, xmk]) (st1 := [.ref 63, .int q]) (h1 := (124, I, J, R)) rfl ?_
  refine ev_gf (c := 63) (t := 65) (X := R 63 1) rfl rfl (fun _ => rfl) rfl (hG 63 1 65 rfl rfl) ?_
  refine ev_go 1 (pc1 := 87) (lv1 := [.ref 63, .ref 3, .int n, .int p, .int q, .ref 17, .int br, .int f, .int ((I 66 5) + 1), xmk, xmk]) (st1 := [.int p, .ref 65, .int q]) (h1 := (124, I, J, R)) rfl ?_
  refine ev_call (v1 := (some (.int m))) (h1 := (124, I, J, R)) rfl rfl c4 ?_
  refine ev_br (b1 := false) rfl rfl (xcd_nne (x := q) (y := m) (by first | exact b2 | omega)) ?_
  refine ev_go 2 (pc1 := 98) (lv1 := [.ref 63, .ref 3, .int n, .int p, .int q, .ref 17, .int br, .int f, .int ((I 66 5) + 1), xmk, xmk]) (st1 := [.int 1]) (h1 := (124, I, J, R)) rfl ?_
  exact ev_ret rfl rfl
set_option maxRecDepth 20000 in
theorem uw2a_3 {L : Nat} {xs : Nat → Int32} {d : Nat} {I : Nat → Nat → Int32} {J : Nat → Nat → Int64} {R : Nat → Nat → Nat} {n p q br f k x y : Int32} (hG : aGd R) (c1 : xEv L xs d 39 0 [.ref 15, .int n] [] (124, I, J, R) (some (.int br)) (124, I, J, R)) (c2 : xEv L xs d 39 0 [.ref 12, .int n] [] (124, I, J, R) (some (.int f)) (124, I, J, R)) (c3 : xEv L xs d 39 0 [.ref 64, .int p] [] (124, I, J, R) (some (.int k)) (124, I, J, R)) (b1 : k.toInt = 2) (c4 : xEv L xs d 66 0 [.ref 17, .int br, .int q, .int f, .int ((I 66 5) + 1), xmk, xmk, xmk] [] (124, I, J, R) (some (.int x)) (124, I, J, R)) (c5 : xEv L xs d 66 0 [.ref 17, .int br, .int p, .int f, .int ((I 66 5) + 1), xmk, xmk, xmk] [] (124, I, J, R) (some (.int y)) (124, I, J, R)) (b2 : q.toInt = f.toInt) : xEv L xs (d + 1) 128 0 [.ref 63, .ref 3, .int n, .int p, .int q, xmk, xmk, xmk, xmk, xmk, xmk] [] (124, I, J, R) (some (.int 1)) (124, I, J, R) := by
  refine ev_go 1 (pc1 := 1) (lv1 := [.ref 63, .ref 3, .int n, .int p, .int q, xmk, xmk, xmk, xmk, xmk, xmk]) (st1 := [.ref 3]) (h1 := (124, I, J, R)) rfl ?_
  refine ev_gf (c := 3) (t := 17) (X := R 3 13) rfl rfl (fun _ => rfl) rfl (hG 3 13 17 rfl rfl) ?_
  refine ev_go 2 (pc1 := 7) (lv1 := [.ref 63, .ref 3, .int n, .int p, .int q, .ref 17, xmk, xmk, xmk, xmk, xmk]) (st1 := [.ref 3]) (h1 := (124, I, J, R)) rfl ?_
  refine ev_gf (c := 3) (t := 15) (X := R 3 11) rfl rfl (fun _ => rfl) rfl (hG 3 11 15 rfl rfl) ?_
  refine ev_go 1 (pc1 := 11) (lv1 := [.ref 63, .ref 3, .int n, .int p, .int q, .ref 17, xmk, xmk, xmk, xmk, xmk]) (st1 := [.int n, .ref 15]) (h1 := (124, I, J, R)) rfl ?_
  refine ev_call (v1 := (some (.int br))) (h1 := (124, I, J, R)) rfl rfl c1 ?_
  refine ev_go 2 (pc1 := 17) (lv1 := [.ref 63, .ref 3, .int n, .int p, .int q, .ref 17, .int br, xmk, xmk, xmk, xmk]) (st1 := [.ref 3]) (h1 := (124, I, J, R)) rfl ?_
  refine ev_gf (c := 3) (t := 12) (X := R 3 8) rfl rfl (fun _ => rfl) rfl (hG 3 8 12 rfl rfl) ?_
  refine ev_go 1 (pc1 := 21) (lv1 := [.ref 63, .ref 3, .int n, .int p, .int q, .ref 17, .int br, xmk, xmk, xmk, xmk]) (st1 := [.int n, .ref 12]) (h1 := (124, I, J, R)) rfl ?_
  refine ev_call (v1 := (some (.int f))) (h1 := (124, I, J, R)) rfl rfl c2 ?_
  refine ev_go 2 (pc1 := 27) (lv1 := [.ref 63, .ref 3, .int n, .int p, .int q, .ref 17, .int br, .int f, xmk, xmk, xmk]) (st1 := [.ref 63]) (h1 := (124, I, J, R)) rfl ?_
  refine ev_gf (c := 63) (t := 66) (X := R 63 3) rfl rfl (fun _ => rfl) rfl (hG 63 3 66 rfl rfl) ?_
  refine ev_go 5 (pc1 := 38) (lv1 := [.ref 63, .ref 3, .int n, .int p, .int q, .ref 17, .int br, .int f, .int ((I 66 5) + 1), xmk, xmk]) (st1 := [.ref 63]) (h1 := (124, I, J, R)) rfl ?_
  refine ev_gf (c := 63) (t := 64) (X := R 63 0) rfl rfl (fun _ => rfl) rfl (hG 63 0 64 rfl rfl) ?_
  refine ev_go 1 (pc1 := 42) (lv1 := [.ref 63, .ref 3, .int n, .int p, .int q, .ref 17, .int br, .int f, .int ((I 66 5) + 1), xmk, xmk]) (st1 := [.int p, .ref 64]) (h1 := (124, I, J, R)) rfl ?_
  refine ev_call (v1 := (some (.int k))) (h1 := (124, I, J, R)) rfl rfl c3 ?_
  refine ev_tk (x := k) (z := 2) (t := 99) rfl rfl b1 (by decide) rfl rfl ?_
  refine ev_go 5 (pc1 := 109) (lv1 := [.ref 63, .ref 3, .int n, .int p, .int q, .ref 17, .int br, .int f, .int ((I 66 5) + 1), xmk, xmk]) (st1 := [.int ((I 66 5) + 1), .int f, .int q, .int br, .ref 17]) (h1 := (124, I, J, R)) rfl ?_
  refine ev_call (v1 := (some (.int x))) (h1 := (124, I, J, R)) rfl rfl c4 ?_
  refine ev_go 6 (pc1 := 123) (lv1 := [.ref 63, .ref 3, .int n, .int p, .int q, .ref 17, .int br, .int f, .int ((I 66 5) + 1), .int x, xmk]) (st1 := [.int ((I 66 5) + 1), .int f, .int p, .int br, .ref 17]) (h1 := (124, I, J, R)) rfl ?_
  refine ev_call (v1 := (some (.int y))) (h1 := (124, I, J, R)) rfl rfl c5 ?_
  refine ev_go 3 (pc1 := 132) (lv1 := [.ref 63, .ref 3, .int n, .int p, .int q, .ref 17, .int br, .int f, .int ((I 66 5) + 1), .int x, .int y]) (st1 := [.int f, .int q]) (h1 := (124, I, J, R)) rfl ?_
  refine ev_br (b1 := true) rfl rfl (xcd_eq (x := q) (y := f) (by first | exact b2 | omega)) ?_
  refine ev_go 2 (pc1 := 159) (lv1 := [.ref 63, .ref 3, .int n, .int p, .int q, .ref 17, .int br, .int f, .int ((I 66 5) + 1), .int x, .int y]) (st1 := [.int 1]) (h1 := (124, I, J, R)) rfl ?_
  exact ev_ret rfl rfl
set_option maxRecDepth 20000 in
theorem uw2b_3 {L : Nat} {xs : Nat → Int32} {d : Nat} {I : Nat → Nat → Int32} {J : Nat → Nat → Int64} {R : Nat → Nat → Nat} {n p q br f k x y : Int32} (hG : aGd R) (c1 : xEv L xs d 39 0 [.ref 15, .int n] [] (124, I, J, R) (some (.int br)) (124, I, J, R)) (c2 : xEv L xs d 39 0 [.ref 12, .int n] [] (124, I, J, R) (some (.int f)) (124, I, J, R)) (c3 : xEv L xs d 39 0 [.ref 64, .int p] [] (124, I, J, R) (some (.int k)) (124, I, J, R)) (b1 : k.toInt = 2) (c4 : xEv L xs d 66 0 [.ref 17, .int br, .int q, .int f, .int ((I 66 5) + 1), xmk, xmk, xmk] [] (124, I, J, R) (some (.int x)) (124, I, J, R)) (c5 : xEv L xs d 66 0 [.ref 17, .int br, .int p, .int f, .int ((I 66 5) + 1), xmk, xmk, xmk] [] (124, I, J, R) (some (.int y)) (124, I, J, R)) (b2 : q.toInt ≠ f.toInt) (b3 : x.toInt = -1) : xEv L xs (d + 1) 128 0 [.ref 63, .ref 3, .int n, .int p, .int q, xmk, xmk, xmk, xmk, xmk, xmk] [] (124, I, J, R) (some (.int 0)) (124, I, J, R) := by
  refine ev_go 1 (pc1 := 1) (lv1 := [.ref 63, .ref 3, .int n, .int p, .int q, xmk, xmk, xmk, xmk, xmk, xmk]) (st1 := [.ref 3]) (h1 := (124, I, J, R)) rfl ?_
  refine ev_gf (c := 3) (t := 17) (X := R 3 13) rfl rfl (fun _ => rfl) rfl (hG 3 13 17 rfl rfl) ?_
  refine ev_go 2 (pc1 := 7) (lv1 := [.ref 63, .ref 3, .int n, .int p, .int q, .ref 17, xmk, xmk, xmk, xmk, xmk]) (st1 := [.ref 3]) (h1 := (124, I, J, R)) rfl ?_
  refine ev_gf (c := 3) (t := 15) (X := R 3 11) rfl rfl (fun _ => rfl) rfl (hG 3 11 15 rfl rfl) ?_
  refine ev_go 1 (pc1 := 11) (lv1 := [.ref 63, .ref 3, .int n, .int p, .int q, .ref 17, xmk, xmk, xmk, xmk, xmk]) (st1 := [.int n, .ref 15]) (h1 := (124, I, J, R)) rfl ?_
  refine ev_call (v1 := (some (.int br))) (h1 := (124, I, J, R)) rfl rfl c1 ?_
  refine ev_go 2 (pc1 := 17) (lv1 := [.ref 63, .ref 3, .int n, .int p, .int q, .ref 17, .int br, xmk, xmk, xmk, xmk]) (st1 := [.ref 3]) (h1 := (124, I, J, R)) rfl ?_
  refine ev_gf (c := 3) (t := 12) (X := R 3 8) rfl rfl (fun _ => rfl) rfl (hG 3 8 12 rfl rfl) ?_
  refine ev_go 1 (pc1 := 21) (lv1 := [.ref 63, .ref 3, .int n, .int p, .int q, .ref 17, .int br, xmk, xmk, xmk, xmk]) (st1 := [.int n, .ref 12]) (h1 := (124, I, J, R)) rfl ?_
  refine ev_call (v1 := (some (.int f))) (h1 := (124, I, J, R)) rfl rfl c2 ?_
  refine ev_go 2 (pc1 := 27) (lv1 := [.ref 63, .ref 3, .int n, .int p, .int q, .ref 17, .int br, .int f, xmk, xmk, xmk]) (st1 := [.ref 63]) (h1 := (124, I, J, R)) rfl ?_
  refine ev_gf (c := 63) (t := 66) (X := R 63 3) rfl rfl (fun _ => rfl) rfl (hG 63 3 66 rfl rfl) ?_
  refine ev_go 5 (pc1 := 38) (lv1 := [.ref 63, .ref 3, .int n, .int p, .int q, .ref 17, .int br, .int f, .int ((I 66 5) + 1), xmk, xmk]) (st1 := [.ref 63]) (h1 := (124, I, J, R)) rfl ?_
  refine ev_gf (c := 63) (t := 64) (X := R 63 0) rfl rfl (fun _ => rfl) rfl (hG 63 0 64 rfl rfl) ?_
  refine ev_go 1 (pc1 := 42) (lv1 := [.ref 63, .ref 3, .int n, .int p, .int q, .ref 17, .int br, .int f, .int ((I 66 5) + 1), xmk, xmk]) (st1 := [.int p, .ref 64]) (h1 := (124, I, J, R)) rfl ?_
  refine ev_call (v1 := (some (.int k))) (h1 := (124, I, J, R)) rfl rfl c3 ?_
  refine ev_tk (x := k) (z := 2) (t := 99) rfl rfl b1 (by decide) rfl rfl ?_
  refine ev_go 5 (pc1 := 109) (lv1 := [.ref 63, .ref 3, .int n, .int p, .int q, .ref 17, .int br, .int f, .int ((I 66 5) + 1), xmk, xmk]) (st1 := [.int ((I 66 5) + 1), .int f, .int q, .int br, .ref 17]) (h1 := (124, I, J, R)) rfl ?_
  refine ev_call (v1 := (some (.int x))) (h1 := (124, I, J, R)) rfl rfl c4 ?_
  refine ev_go 6 (pc1 := 123) (lv1 := [.ref 63, .ref 3, .int n, .int p, .int q, .ref 17, .int br, .int f, .int ((I 66 5) + 1), .int x, xmk]) (st1 := [.int ((I 66 5) + 1), .int f, .int p, .int br, .ref 17]) (h1 := (124, I, J, R)) rfl ?_
  refine ev_call (v1 := (some (.int y))) (h1 := (124, I, J, R)) rfl rfl c5 ?_
  refine ev_go 3 (pc1 := 132) (lv1 := [.ref 63, .ref 3, .int n, .int p, .int q, .ref 17, .int br, .int f, .int ((I 66 5) + 1), .int x, .int y]) (st1 := [.int f, .int q]) (h1 := (124, I, J, R)) rfl ?_
  refine ev_br (b1 := false) rfl rfl (xcd_neq (x := q) (y := f) (by first | exact b2 | omega)) ?_
  refine ev_go 2 (pc1 := 138) (lv1 := [.ref 63, .ref 3, .int n, .int p, .int q, .ref 17, .int br, .int f, .int ((I 66 5) + 1), .int x, .int y]) (st1 := [.int (-1), .int x]) (h1 := (124, I, J, R)) rfl ?_
  refine ev_br (b1 := true) rfl rfl (xcd_eq (x := x) (y := (-1)) (by rw [show ((-1 : Int32)).toInt = -1 from by decide]; first | exact b3 | omega)) ?_
  refine ev_go 1 (pc1 := 159) (lv1 := [.ref 63, .ref 3, .int n, .int p, .int q, .ref 17, .int br, .int f, .int ((I 66 5) + 1), .int x, .int y]) (st1 := [.int 0]) (h1 := (124, I, J, R)) rfl ?_
  exact ev_ret rfl rfl
set_option maxRecDepth 20000 in
theorem uw2c_3 {L : Nat} {xs : Nat → Int32} {d : Nat} {I : Nat → Nat → Int32} {J : Nat → Nat → Int64} {R : Nat → Nat → Nat} {n p q br f k x y : Int32} (hG : aGd R) (c1 : xEv L xs d 39 0 [.ref 15, .int n] [] (124, I, J, R) (some (.int br)) (124, I, J, R)) (c2 : xEv L xs d 39 0 [.ref 12, .int n] [] (124, I, J, R) (some (.int f)) (124, I, J, R)) (c3 : xEv L xs d 39 0 [.ref 64, .int p] [] (124, I, J, R) (some (.int k)) (124, I, J, R)) (b1 : k.toInt = 2) (c4 : xEv L xs d 66 0 [.ref 17, .int br, .int q, .int f, .int ((I 66 5) + 1), xmk, xmk, xmk] [] (124, I, J, R) (some (.int x)) (124, I, J, R)) (c5 : xEv L xs d 66 0 [.ref 17, .int br, .int p, .int f, .int ((I 66 5) + 1), xmk, xmk, xmk] [] (124, I, J, R) (some (.int y)) (124, I, J, R)) (b2 : q.toInt ≠ f.toInt) (b3 : x.toInt ≠ -1) (b4 : y.toInt = -1) : xEv L xs (d + 1) 128 0 [.ref 63, .ref 3, .int n, .int p, .int q, xmk, xmk, xmk, xmk, xmk, xmk] [] (124, I, J, R) (some (.int 1)) (124, I, J, R) := by
  refine ev_go 1 (pc1 := 1) (lv1 := [.ref 63, .ref 3, .int n, .int p, .int q, xmk, xmk, xmk, xmk, xmk, xmk]) (st1 := [.ref 3]) (h1 := (124, I, J, R)) rfl ?_
  refine ev_gf (c := 3) (t := 17) (X := R 3 13) rfl rfl (fun _ => rfl) rfl (hG 3 13 17 rfl rfl) ?_
  refine ev_go 2 (pc1 := 7) (lv1 := [.ref 63, .ref 3, .int n, .int p, .int q, .ref 17, xmk, xmk, xmk, xmk, xmk]) (st1 := [.ref 3]) (h1 := (124, I, J, R)) rfl ?_
  refine ev_gf (c := 3) (t := 15) (X := R 3 11) rfl rfl (fun _ => rfl) rfl (hG 3 11 15 rfl rfl) ?_
  refine ev_go 1 (pc1 := 11) (lv1 := [.ref 63, .ref 3, .int n, .int p, .int q, .ref 17, xmk, xmk, xmk, xmk, xmk]) (st1 := [.int n, .ref 15]) (h1 := (124, I, J, R)) rfl ?_
  refine ev_call (v1 := (some (.int br))) (h1 := (124, I, J, R)) rfl rfl c1 ?_
  refine ev_go 2 (pc1 := 17) (lv1 := [.ref 63, .ref 3, .int n, .int p, .int q, .ref 17, .int br, xmk, xmk, xmk, xmk]) (st1 := [.ref 3]) (h1 := (124, I, J, R)) rfl ?_
  refine ev_gf (c := 3) (t := 12) (X := R 3 8) rfl rfl (fun _ => rfl) rfl (hG 3 8 12 rfl rfl) ?_
  refine ev_go 1 (pc1 := 21) (lv1 := [.ref 63, .ref 3, .int n, .int p, .int q, .ref 17, .int br, xmk, xmk, xmk, xmk]) (st1 := [.int n, .ref 12]) (h1 := (124, I, J, R)) rfl ?_
  refine ev_call (v1 := (some (.int f))) (h1 := (124, I, J, R)) rfl rfl c2 ?_
  refine ev_go 2 (pc1 := 27) (lv1 := [.ref 63, .ref 3, .int n, .int p, .int q, .ref 17, .int br, .int f, xmk, xmk, xmk]) (st1 := [.ref 63]) (h1 := (124, I, J, R)) rfl ?_
  refine ev_gf (c := 63) (t := 66) (X := R 63 3) rfl rfl (fun _ => rfl) rfl (hG 63 3 66 rfl rfl) ?_
  refine ev_go 5 (pc1 := 38) (lv1 := [.ref 63, .ref 3, .int n, .int p, .int q, .ref 17, .int br, .int f, .int ((I 66 5) + 1), xmk, xmk]) (st1 := [.ref 63]) (h1 := (124, I, J, R)) rfl ?_
  refine ev_gf (c := 63) (t := 64) (X := R 63 0) rfl rfl (fun _ => rfl) rfl (hG 63 0 64 rfl rfl) ?_
  refine ev_go 1 (pc1 := 42) (lv1 := [.ref 63, .ref 3, .int n, .int p, .int q, .ref 17, .int br, .int f, .int ((I 66 5) + 1), xmk, xmk]) (st1 := [.int p, .ref 64]) (h1 := (124, I, J, R)) rfl ?_
  refine ev_call (v1 := (some (.int k))) (h1 := (124, I, J, R)) rfl rfl c3 ?_
  refine ev_tk (x := k) (z := 2) (t := 99) rfl rfl b1 (by decide) rfl rfl ?_
  refine ev_go 5 (pc1 := 109) (lv1 := [.ref 63, .ref 3, .int n, .int p, .int q, .ref 17, .int br, .int f, .int ((I 66 5) + 1), xmk, xmk]) (st1 := [.int ((I 66 5) + 1), .int f, .int q, .int br, .ref 17]) (h1 := (124, I, J, R)) rfl ?_
  refine ev_call (v1 := (some (.int x))) (h1 := (124, I, J, R)) rfl rfl c4 ?_
  refine ev_go 6 (pc1 := 123) (lv1 := [.ref 63, .ref 3, .int n, .int p, .int q, .ref 17, .int br, .int f, .int ((I 66 5) + 1), .int x, xmk]) (st1 := [.int ((I 66 5) + 1), .int f, .int p, .int br, .ref 17]) (h1 := (124, I, J, R)) rfl ?_
  refine ev_call (v1 := (some (.int y))) (h1 := (124, I, J, R)) rfl rfl c5 ?_
  refine ev_go 3 (pc1 := 132) (lv1 := [.ref 63, .ref 3, .int n, .int p, .int q, .ref 17, .int br, .int f, .int ((I 66 5) + 1), .int x, .int y]) (st1 := [.int f, .int q]) (h1 := (124, I, J, R)) rfl ?_
  refine ev_br (b1 := false) rfl rfl (xcd_neq (x := q) (y := f) (by first | exact b2 | omega)) ?_
  refine ev_go 2 (pc1 := 138) (lv1 := [.ref 63, .ref 3, .int n, .int p, .int q, .ref 17, .int br, .int f, .int ((I 66 5) + 1), .int x, .int y]) (st1 := [.int (-1), .int x]) (h1 := (124, I, J, R)) rfl ?_
  refine ev_br (b1 := false) rfl rfl (xcd_neq (x := x) (y := (-1)) (by rw [show ((-1 : Int32)).toInt = -1 from by decide]; first | exact b3 | omega)) ?_
  refine ev_go 2 (pc1 := 144) (lv1 := [.ref 63, .ref 3, .int n, .int p, .int q, .ref 17, .int br, .int f, .int ((I 66 5) + 1), .int x, .int y]) (st1 := [.int (-1), .int y]) (h1 := (124, I, J, R)) rfl ?_
  refine ev_br (b1 := true) rfl rfl (xcd_eq (x := y) (y := (-1)) (by rw [show ((-1 : Int32)).toInt = -1 from by decide]; first | exact b4 | omega)) ?_
  refine ev_go 2 (pc1 := 159) (lv1 := [.ref 63, .ref 3, .int n, .int p, .int q, .ref 17, .int br, .int f, .int ((I 66 5) + 1), .int x, .int y]) (st1 := [.int 1]) (h1 := (124, I, J, R)) rfl ?_
  exact ev_ret rfl rfl
set_option maxRecDepth 20000 in
theorem uw2d_3 {L : Nat} {xs : Nat → Int32} {d : Nat} {I : Nat → Nat → Int32} {J : Nat → Nat → Int64} {R : Nat → Nat → Nat} {n p q br f k x y : Int32} (hG : aGd R) (c1 : xEv L xs d 39 0 [.ref 15, .int n] [] (124, I, J, R) (some (.int br)) (124, I, J, R)) (c2 : xEv L xs d 39 0 [.ref 12, .int n] [] (124, I, J, R) (some (.int f)) (124, I, J, R)) (c3 : xEv L xs d 39 0 [.ref 64, .int p] [] (124, I, J, R) (some (.int k)) (124, I, J, R)) (b1 : k.toInt = 2) (c4 : xEv L xs d 66 0 [.ref 17, .int br, .int q, .int f, .int ((I 66 5) + 1), xmk, xmk, xmk] [] (124, I, J, R) (some (.int x)) (124, I, J, R)) (c5 : xEv L xs d 66 0 [.ref 17, .int br, .int p, .int f, .int ((I 66 5) + 1), xmk, xmk, xmk] [] (124, I, J, R) (some (.int y)) (124, I, J, R)) (b2 : q.toInt ≠ f.toInt) (b3 : x.toInt ≠ -1) (b4 : y.toInt ≠ -1) (b5 : x.toInt ≥ y.toInt) : xEv L xs (d + 1) 128 0 [.ref 63, .ref 3, .int n, .int p, .int q, xmk, xmk, xmk, xmk, xmk, xmk] [] (124, I, J, R) (some (.int 0)) (124, I, J, R) := by
  refine ev_go 1 (pc1 := 1) (lv1 := [.ref 63, .ref 3, .int n, .int p, .int q, xmk, xmk, xmk, xmk, xmk, xmk]) (st1 := [.ref 3]) (h1 := (124, I, J, R)) rfl ?_
  refine ev_gf (c := 3) (t := 17) (X := R 3 13) rfl rfl (fun _ => rfl) rfl (hG 3 13 17 rfl rfl) ?_
  refine ev_go 2 (pc1 := 7) (lv1 := [.ref 63, .ref 3, .int n, .int p, .int q, .ref 17, xmk, xmk, xmk, xmk, xmk]) (st1 := [.ref 3]) (h1 := (124, I, J, R)) rfl ?_
  refine ev_gf (c := 3) (t := 15) (X := R 3 11) rfl rfl (fun _ => rfl) rfl (hG 3 11 15 rfl rfl) ?_
  refine ev_go 1 (pc1 := 11) (lv1 := [.ref 63, .ref 3, .int n, .int p, .int q, .ref 17, xmk, xmk, xmk, xmk, xmk]) (st1 := [.int n, .ref 15]) (h1 := (124, I, J, R)) rfl ?_
  refine ev_call (v1 := (some (.int br))) (h1 := (124, I, J, R)) rfl rfl c1 ?_
  refine ev_go 2 (pc1 := 17) (lv1 := [.ref 63, .ref 3, .int n, .int p, .int q, .ref 17, .int br, xmk, xmk, xmk, xmk]) (st1 := [.ref 3]) (h1 := (124, I, J, R)) rfl ?_
  refine ev_gf (c := 3) (t := 12) (X := R 3 8) rfl rfl (fun _ => rfl) rfl (hG 3 8 12 rfl rfl) ?_
  refine ev_go 1 (pc1 := 21) (lv1 := [.ref 63, .ref 3, .int n, .int p, .int q, .ref 17, .int br, xmk, xmk, xmk, xmk]) (st1 := [.int n, .ref 12]) (h1 := (124, I, J, R)) rfl ?_
  refine ev_call (v1 := (some (.int f))) (h1 := (124, I, J, R)) rfl rfl c2 ?_
  refine ev_go 2 (pc1 := 27) (lv1 := [.ref 63, .ref 3, .int n, .int p, .int q, .ref 17, .int br, .int f, xmk, xmk, xmk]) (st1 := [.ref 63]) (h1 := (124, I, J, R)) rfl ?_
  refine ev_gf (c := 63) (t := 66) (X := R 63 3) rfl rfl (fun _ => rfl) rfl (hG 63 3 66 rfl rfl) ?_
  refine ev_go 5 (pc1 := 38) (lv1 := [.ref 63, .ref 3, .int n, .int p, .int q, .ref 17, .int br, .int f, .int ((I 66 5) + 1), xmk, xmk]) (st1 := [.ref 63]) (h1 := (124, I, J, R)) rfl ?_
  refine ev_gf (c := 63) (t := 64) (X := R 63 0) rfl rfl (fun _ => rfl) rfl (hG 63 0 64 rfl rfl) ?_
  refine ev_go 1 (pc1 := 42) (lv1 := [.ref 63, .ref 3, .int n, .int p, .int q, .ref 17, .int br, .int f, .int ((I 66 5) + 1), xmk, xmk]) (st1 := [.int p, .ref 64]) (h1 := (124, I, J, R)) rfl ?_
  refine ev_call (v1 := (some (.int k))) (h1 := (124, I, J, R)) rfl rfl c3 ?_
  refine ev_tk (x := k) (z := 2) (t := 99) rfl rfl b1 (by decide) rfl rfl ?_
  refine ev_go 5 (pc1 := 109) (lv1 := [.ref 63, .ref 3, .int n, .int p, .int q, .ref 17, .int br, .int f, .int ((I 66 5) + 1), xmk, xmk]) (st1 := [.int ((I 66 5) + 1), .int f, .int q, .int br, .ref 17]) (h1 := (124, I, J, R)) rfl ?_
  refine ev_call (v1 := (some (.int x))) (h1 := (124, I, J, R)) rfl rfl c4 ?_
  refine ev_go 6 (pc1 := 123) (lv1 := [.ref 63, .ref 3, .int n, .int p, .int q, .ref 17, .int br, .int f, .int ((I 66 5) + 1), .int x, xmk]) (st1 := [.int ((I 66 5) + 1), .int f, .int p, .int br, .ref 17]) (h1 := (124, I, J, R)) rfl ?_
  refine ev_call (v1 := (some (.int y))) (h1 := (124, I, J, R)) rfl rfl c5 ?_
  refine ev_go 3 (pc1 := 132) (lv1 := [.ref 63, .ref 3, .int n, .int p, .int q, .ref 17, .int br, .int f, .int ((I 66 5) + 1), .int x, .int y]) (st1 := [.int f, .int q]) (h1 := (124, I, J, R)) rfl ?_
  refine ev_br (b1 := false) rfl rfl (xcd_neq (x := q) (y := f) (by first | exact b2 | omega)) ?_
  refine ev_go 2 (pc1 := 138) (lv1 := [.ref 63, .ref 3, .int n, .int p, .int q, .ref 17, .int br, .int f, .int ((I 66 5) + 1), .int x, .int y]) (st1 := [.int (-1), .int x]) (h1 := (124, I, J, R)) rfl ?_
  refine ev_br (b1 := false) rfl rfl (xcd_neq (x := x) (y := (-1)) (by rw [show ((-1 : Int32)).toInt = -1 from by decide]; first | exact b3 | omega)) ?_
  refine ev_go 2 (pc1 := 144) (lv1 := [.ref 63, .ref 3, .int n, .int p, .int q, .ref 17, .int br, .int f, .int ((I 66 5) + 1), .int x, .int y]) (st1 := [.int (-1), .int y]) (h1 := (124, I, J, R)) rfl ?_
  refine ev_br (b1 := false) rfl rfl (xcd_neq (x := y) (y := (-1)) (by rw [show ((-1 : Int32)).toInt = -1 from by decide]; first | exact b4 | omega)) ?_
  refine ev_go 2 (pc1 := 151) (lv1 := [.ref 63, .ref 3, .int n, .int p, .int q, .ref 17, .int br, .int f, .int ((I 66 5) + 1), .int x, .int y]) (st1 := [.int y, .int x]) (h1 := (124, I, J, R)) rfl ?_
  refine ev_br (b1 := true) rfl rfl (xcd_ge (x := x) (y := y) (by first | exact b5 | omega)) ?_
  refine ev_go 1 (pc1 := 159) (lv1 := [.ref 63, .ref 3, .int n, .int p, .int q, .ref 17, .int br, .int f, .int ((I 66 5) + 1), .int x, .int y]) (st1 := [.int 0]) (h1 := (124, I, J, R)) rfl ?_
  exact ev_ret rfl rfl
set_option maxRecDepth 20000 in
theorem uw2e_3 {L : Nat} {xs : Nat → Int32} {d : Nat} {I : Nat → Nat → Int32} {J : Nat → Nat → Int64} {R : Nat → Nat → Nat} {n p q br f k x y : Int32} (hG : aGd R) (c1 : xEv L xs d 39 0 [.ref 15, .int n] [] (124, I, J, R) (some (.int br)) (124, I, J, R)) (c2 : xEv L xs d 39 0 [.ref 12, .int n] [] (124, I, J, R) (some (.int f)) (124, I, J, R)) (c3 : xEv L xs d 39 0 [.ref 64, .int p] [] (124, I, J, R) (some (.int k)) (124, I, J, R)) (b1 : k.toInt = 2) (c4 : xEv L xs d 66 0 [.ref 17, .int br, .int q, .int f, .int ((I 66 5) + 1), xmk, xmk, xmk] [] (124, I, J, R) (some (.int x)) (124, I, J, R)) (c5 : xEv L xs d 66 0 [.ref 17, .int br, .int p, .int f, .int ((I 66 5) + 1), xmk, xmk, xmk] [] (124, I, J, R) (some (.int y)) (124, I, J, R)) (b2 : q.toInt ≠ f.toInt) (b3 : x.toInt ≠ -1) (b4 : y.toInt ≠ -1) (b5 : x.toInt < y.toInt) : xEv L xs (d + 1) 128 0 [.ref 63, .ref 3, .int n, .int p, .int q, xmk, xmk, xmk, xmk, xmk, xmk] [] (124, I, J, R) (some (.int 1)) (124, I, J, R) := by
  refine ev_go 1 (pc1 := 1) (lv1 := [.ref 63, .ref 3, .int n, .int p, .int q, xmk, xmk, xmk, xmk, xmk, xmk]) (st1 := [.ref 3]) (h1 := (124, I, J, R)) rfl ?_
  refine ev_gf (c := 3) (t := 17) (X := R 3 13) rfl rfl (fun _ => rfl) rfl (hG 3 13 17 rfl rfl) ?_
  refine ev_go 2 (pc1 := 7) (lv1 := [.ref 63, .ref 3, .int n, .int p, .int q, .ref 17, xmk, xmk, xmk, xmk, xmk]) (st1 := [.ref 3]) (h1 := (124, I, J, R)) rfl ?_
  refine ev_gf (c := 3) (t := 15) (X := R 3 11) rfl rfl (fun _ => rfl) rfl (hG 3 11 15 rfl rfl) ?_
  refine ev_go 1 (pc1 := 11) (lv1 := [.ref 63, .ref 3, .int n, .int p, .int q, .ref 17, xmk, xmk, xmk, xmk, xmk]) (st1 := [.int n, .ref 15]) (h1 := (124, I, J, R)) rfl ?_
  refine ev_call (v1 := (some (.int br))) (h1 := (124, I, J, R)) rfl rfl c1 ?_
  refine ev_go 2 (pc1 := 17) (lv1 := [.ref 63, .ref 3, .int n, .int p, .int q, .ref 17, .int br, xmk, xmk, xmk, xmk]) (st1 := [.ref 3]) (h1 := (124, I, J, R)) rfl ?_
  refine ev_gf (c := 3) (t := 12) (X := R 3 8) rfl rfl (fun _ => rfl) rfl (hG 3 8 12 rfl rfl) ?_
  refine ev_go 1 (pc1 := 21) (lv1 := [.ref 63, .ref 3, .int n, .int p, .int q, .ref 17, .int br, xmk, xmk, xmk, xmk]) (st1 := [.int n, .ref 12]) (h1 := (124, I, J, R)) rfl ?_
  refine ev_call (v1 := (some (.int f))) (h1 := (124, I, J, R)) rfl rfl c2 ?_
  refine ev_go 2 (pc1 := 27) (lv1 := [.ref 63, .ref 3, .int n, .int p, .int q, .ref 17, .int br, .int f, xmk, xmk, xmk]) (st1 := [.ref 63]) (h1 := (124, I, J, R)) rfl ?_
  refine ev_gf (c := 63) (t := 66) (X := R 63 3) rfl rfl (fun _ => rfl) rfl (hG 63 3 66 rfl rfl) ?_
  refine ev_go 5 (pc1 := 38) (lv1 := [.ref 63, .ref 3, .int n, .int p, .int q, .ref 17, .int br, .int f, .int ((I 66 5) + 1), xmk, xmk]) (st1 := [.ref 63]) (h1 := (124, I, J, R)) rfl ?_
  refine ev_gf (c := 63) (t := 64) (X := R 63 0) rfl rfl (fun _ => rfl) rfl (hG 63 0 64 rfl rfl) ?_
  refine ev_go 1 (pc1 := 42) (lv1 := [.ref 63, .ref 3, .int n, .int p, .int q, .ref 17, .int br, .int f, .int ((I 66 5) + 1), xmk, xmk]) (st1 := [.int p, .ref 64]) (h1 := (124, I, J, R)) rfl ?_
  refine ev_call (v1 := (some (.int k))) (h1 := (124, I, J, R)) rfl rfl c3 ?_
  refine ev_tk (x := k) (z := 2) (t := 99) rfl rfl b1 (by decide) rfl rfl ?_
  refine ev_go 5 (pc1 := 109) (lv1 := [.ref 63, .ref 3, .int n, .int p, .int q, .ref 17, .int br, .int f, .int ((I 66 5) + 1), xmk, xmk]) (st1 := [.int ((I 66 5) + 1), .int f, .int q, .int br, .ref 17]) (h1 := (124, I, J, R)) rfl ?_
  refine ev_call (v1 := (some (.int x))) (h1 := (124, I, J, R)) rfl rfl c4 ?_
  refine ev_go 6 (pc1 := 123) (lv1 := [.ref 63, .ref 3, .int n, .int p, .int q, .ref 17, .int br, .int f, .int ((I 66 5) + 1), .int x, xmk]) (st1 := [.int ((I 66 5) + 1), .int f, .int p, .int br, .ref 17]) (h1 := (124, I, J, R)) rfl ?_
  refine ev_call (v1 := (some (.int y))) (h1 := (124, I, J, R)) rfl rfl c5 ?_
  refine ev_go 3 (pc1 := 132) (lv1 := [.ref 63, .ref 3, .int n, .int p, .int q, .ref 17, .int br, .int f, .int ((I 66 5) + 1), .int x, .int y]) (st1 := [.int f, .int q]) (h1 := (124, I, J, R)) rfl ?_
  refine ev_br (b1 := false) rfl rfl (xcd_neq (x := q) (y := f) (by first | exact b2 | omega)) ?_
  refine ev_go 2 (pc1 := 138) (lv1 := [.ref 63, .ref 3, .int n, .int p, .int q, .ref 17, .int br, .int f, .int ((I 66 5) + 1), .int x, .int y]) (st1 := [.int (-1), .int x]) (h1 := (124, I, J, R)) rfl ?_
  refine ev_br (b1 := false) rfl rfl (xcd_neq (x := x) (y := (-1)) (by rw [show ((-1 : Int32)).toInt = -1 from by decide]; first | exact b3 | omega)) ?_
  refine ev_go 2 (pc1 := 144) (lv1 := [.ref 63, .ref 3, .int n, .int p, .int q, .ref 17, .int br, .int f, .int ((I 66 5) + 1), .int x, .int y]) (st1 := [.int (-1), .int y]) (h1 := (124, I, J, R)) rfl ?_
  refine ev_br (b1 := false) rfl rfl (xcd_neq (x := y) (y := (-1)) (by rw [show ((-1 : Int32)).toInt = -1 from by decide]; first | exact b4 | omega)) ?_
  refine ev_go 2 (pc1 := 151) (lv1 := [.ref 63, .ref 3, .int n, .int p, .int q, .ref 17, .int br, .int f, .int ((I 66 5) + 1), .int x, .int y]) (st1 := [.int y, .int x]) (h1 := (124, I, J, R)) rfl ?_
  refine ev_br (b1 := false) rfl rfl (xcd_nge (x := x) (y := y) (by first | exact b5 | omega)) ?_
  refine ev_go 2 (pc1 := 159) (lv1 := [.ref 63, .ref 3, .int n, .int p, .int q, .ref 17, .int br, .int f, .int ((I 66 5) + 1), .int x, .int y]) (st1 := [.int 1]) (h1 := (124, I, J, R)) rfl ?_
  exact ev_ret rfl rfl
set_option maxRecDepth 20000 in
theorem uw3_3 {L : Nat} {xs : Nat → Int32} {d : Nat} {I : Nat → Nat → Int32} {J : Nat → Nat → Int64} {R : Nat → Nat → Nat} {n p q br f k : Int32} (hG : aGd R) (c1 : xEv L xs d 39 0 [.ref 15, .int n] [] (124, I, J, R) (some (.int br)) (124, I, J, R)) (c2 : xEv L xs d 39 0 [.ref 12, .int n] [] (124, I, J, R) (some (.int f)) (124, I, J, R)) (c3 : xEv L xs d 39 0 [.ref 64, .int p] [] (124, I, J, R) (some (.int k)) (124, I, J, R)) (b1 : k.toInt = 3) : xEv L xs (d + 1) 128 0 [.ref 63, .ref 3, .int n, .int p, .int q, xmk, xmk, xmk, xmk, xmk, xmk] [] (124, I, J, R) (some (.int 1)) (124, I, J, R) := by
  refine ev_go 1 (pc1 := 1) (lv1 := [.ref 63, .ref 3, .int n, .int p, .int q, xmk, xmk, xmk, xmk, xmk, xmk]) (st1 := [.ref 3]) (h1 := (124, I, J, R)) rfl ?_
  refine ev_gf (c := 3) (t := 17) (X := R 3 13) rfl rfl (fun _ => rfl) rfl (hG 3 13 17 rfl rfl) ?_
  refine ev_go 2 (pc1 := 7) (lv1 := [.ref 63, .ref 3, .int n, .int p, .int q, .ref 17, xmk, xmk, xmk, xmk, xmk]) (st1 := [.ref 3]) (h1 := (124, I, J, R)) rfl ?_
  refine ev_gf (c := 3) (t := 15) (X := R 3 11) rfl rfl (fun _ => rfl) rfl (hG 3 11 15 rfl rfl) ?_
  refine ev_go 1 (pc1 := 11) (lv1 := [.ref 63, .ref 3, .int n, .int p, .int q, .ref 17, xmk, xmk, xmk, xmk, xmk]) (st1 := [.int n, .ref 15]) (h1 := (124, I, J, R)) rfl ?_
  refine ev_call (v1 := (some (.int br))) (h1 := (124, I, J, R)) rfl rfl c1 ?_
  refine ev_go 2 (pc1 := 17) (lv1 := [.ref 63, .ref 3, .int n, .int p, .int q, .ref 17, .int br, xmk, xmk, xmk, xmk]) (st1 := [.ref 3]) (h1 := (124, I, J, R)) rfl ?_
  refine ev_gf (c := 3) (t := 12) (X := R 3 8) rfl rfl (fun _ => rfl) rfl (hG 3 8 12 rfl rfl) ?_
  refine ev_go 1 (pc1 := 21) (lv1 := [.ref 63, .ref 3, .int n, .int p, .int q, .ref 17, .int br, xmk, xmk, xmk, xmk]) (st1 := [.int n, .ref 12]) (h1 := (124, I, J, R)) rfl ?_
  refine ev_call (v1 := (some (.int f))) (h1 := (124, I, J, R)) rfl rfl c2 ?_
  refine ev_go 2 (pc1 := 27) (lv1 := [.ref 63, .ref 3, .int n, .int p, .int q, .ref 17, .int br, .int f, xmk, xmk, xmk]) (st1 := [.ref 63]) (h1 := (124, I, J, R)) rfl ?_
  refine ev_gf (c := 63) (t := 66) (X := R 63 3) rfl rfl (fun _ => rfl) rfl (hG 63 3 66 rfl rfl) ?_
  refine ev_go 5 (pc1 := 38) (lv1 := [.ref 63, .ref 3, .int n, .int p, .int q, .ref 17, .int br, .int f, .int ((I 66 5) + 1), xmk, xmk]) (st1 := [.ref 63]) (h1 := (124, I, J, R)) rfl ?_
  refine ev_gf (c := 63) (t := 64) (X := R 63 0) rfl rfl (fun _ => rfl) rfl (hG 63 0 64 rfl rfl) ?_
  refine ev_go 1 (pc1 := 42) (lv1 := [.ref 63, .ref 3, .int n, .int p, .int q, .ref 17, .int br, .int f, .int ((I 66 5) + 1), xmk, xmk]) (st1 := [.int p, .ref 64]) (h1 := (124, I, J, R)) rfl ?_
  refine ev_call (v1 := (some (.int k))) (h1 := (124, I, J, R)) rfl rfl c3 ?_
  refine ev_tk (x := k) (z := 3) (t := 160) rfl rfl b1 (by decide) rfl rfl ?_
  refine ev_go 1 (pc1 := 161) (lv1 := [.ref 63, .ref 3, .int n, .int p, .int q, .ref 17, .int br, .int f, .int ((I 66 5) + 1), xmk, xmk]) (st1 := [.int 1]) (h1 := (124, I, J, R)) rfl ?_
  exact ev_ret rfl rfl
set_option maxRecDepth 20000 in
theorem uw4n_3 {L : Nat} {xs : Nat → Int32} {d : Nat} {I : Nat → Nat → Int32} {J : Nat → Nat → Int64} {R : Nat → Nat → Nat} {n p q br f k m : Int32} (hG : aGd R) (c1 : xEv L xs d 39 0 [.ref 15, .int n] [] (124, I, J, R) (some (.int br)) (124, I, J, R)) (c2 : xEv L xs d 39 0 [.ref 12, .int n] [] (124, I, J, R) (some (.int f)) (124, I, J, R)) (c3 : xEv L xs d 39 0 [.ref 64, .int p] [] (124, I, J, R) (some (.int k)) (124, I, J, R)) (b1 : k.toInt = 4) (c4 : xEv L xs d 39 0 [.ref 70, .int n] [] (124, I, J, R) (some (.int m)) (124, I, J, R)) (b2 : q.toInt ≠ m.toInt) : xEv L xs (d + 1) 128 0 [.ref 63, .ref 3, .int n, .int p, .int q, xmk, xmk, xmk, xmk, xmk, xmk] [] (124, I, J, R) (some (.int 0)) (124, I, J, R) := by
  refine ev_go 1 (pc1 := 1) (lv1 := [.ref 63, .ref 3, .int n, .int p, .int q, xmk, xmk, xmk, xmk, xmk, xmk]) (st1 := [.ref 3]) (h1 := (124, I, J, R)) rfl ?_
  refine ev_gf (c := 3) (t := 17) (X := R 3 13) rfl rfl (fun _ => rfl) rfl (hG 3 13 17 rfl rfl) ?_
  refine ev_go 2 (pc1 := 7) (lv1 := [.ref 63, .ref 3, .int n, .int p, .int q, .ref 17, xmk, xmk, xmk, xmk, xmk]) (st1 := [.ref 3]) (h1 := (124, I, J, R)) rfl ?_
  refine ev_gf (c := 3) (t := 15) (X := R 3 11) rfl rfl (fun _ => rfl) rfl (hG 3 11 15 rfl rfl) ?_
  refine ev_go 1 (pc1 := 11) (lv1 := [.ref 63, .ref 3, .int n, .int p, .int q, .ref 17, xmk, xmk, xmk, xmk, xmk]) (st1 := [.int n, .ref 15]) (h1 := (124, I, J, R)) rfl ?_
  refine ev_call (v1 := (some (.int br))) (h1 := (124, I, J, R)) rfl rfl c1 ?_
  refine ev_go 2 (pc1 := 17) (lv1 := [.ref 63, .ref 3, .int n, .int p, .int q, .ref 17, .int br, xmk, xmk, xmk, xmk]) (st1 := [.ref 3]) (h1 := (124, I, J, R)) rfl ?_
  refine ev_gf (c := 3) (t := 12) (X := R 3 8) rfl rfl (fun _ => rfl) rfl (hG 3 8 12 rfl rfl) ?_
  refine ev_go 1 (pc1 := 21) (lv1 := [.ref 63, .ref 3, .int n, .int p, .int q, .ref 17, .int br, xmk, xmk, xmk, xmk]) (st1 := [.int n, .ref 12]) (h1 := (124, I, J, R)) rfl ?_
  refine ev_call (v1 := (some (.int f))) (h1 := (124, I, J, R)) rfl rfl c2 ?_
  refine ev_go 2 (pc1 := 27) (lv1 := [.ref 63, .ref 3, .int n, .int p, .int q, .ref 17, .int br, .int f, xmk, xmk, xmk]) (st1 := [.ref 63]) (h1 := (124, I, J, R)) rfl ?_
  refine ev_gf (c := 63) (t := 66) (X := R 63 3) rfl rfl (fun _ => rfl) rfl (hG 63 3 66 rfl rfl) ?_
  refine ev_go 5 (pc1 := 38) (lv1 := [.ref 63, .ref 3, .int n, .int p, .int q, .ref 17, .int br, .int f, .int ((I 66 5) + 1), xmk, xmk]) (st1 := [.ref 63]) (h1 := (124, I, J, R)) rfl ?_
  refine ev_gf (c := 63) (t := 64) (X := R 63 0) rfl rfl (fun _ => rfl) rfl (hG 63 0 64 rfl rfl) ?_
  refine ev_go 1 (pc1 := 42) (lv1 := [.ref 63, .ref 3, .int n, .int p, .int q, .ref 17, .int br, .int f, .int ((I 66 5) + 1), xmk, xmk]) (st1 := [.int p, .ref 64]) (h1 := (124, I, J, R)) rfl ?_
  refine ev_call (v1 := (some (.int k))) (h1 := (124, I, J, R)) rfl rfl c3 ?_
  refine ev_tk (x := k) (z := 4) (t := 162) rfl rfl b1 (by decide) rfl rfl ?_
  refine ev_go 2 (pc1 := 165) (lv1 := [.ref 63, .ref 3, .int n, .int p, .int q, .ref 17, .int br, .int f, .int ((I 66 5) + 1), xmk, xmk]) (st1 := [.ref 63, .int q]) (h1 := (124, I, J, R)) rfl ?_
  refine ev_gf (c := 63) (t := 66) (X := R 63 3) rfl rfl (fun _ => rfl) rfl (hG 63 3 66 rfl rfl) ?_
  refine ev_gf (c := 66) (t := 70) (X := R 66 3) rfl rfl (fun _ => rfl) rfl (hG 66 3 70 rfl rfl) ?_
  refine ev_go 1 (pc1 := 172) (lv1 := [.ref 63, .ref 3, .int n, .int p, .int q, .ref 17, .int br, .int f, .int ((I 66 5) + 1), xmk, xmk]) (st1 := [.int n, .ref 70, .int q]) (h1 := (124, I, J, R)) rfl ?_
  refine ev_call (v1 := (some (.int m))) (h1 := (124, I, J, R)) rfl rfl c4 ?_
  refine ev_br (b1 := true) rfl rfl (xcd_ne (x := q) (y := m) (by first | exact b2 | omega)) ?_
  refine ev_go 1 (pc1 := 183) (lv1 := [.ref 63, .ref 3, .int n, .int p, .int q, .ref 17, .int br, .int f, .int ((I 66 5) + 1), xmk, xmk]) (st1 := [.int 0]) (h1 := (124, I, J, R)) rfl ?_
  exact ev_ret rfl rfl
set_option maxRecDepth 20000 in
theorem uw4y_3 {L : Nat} {xs : Nat → Int32} {d : Nat} {I : Nat → Nat → Int32} {J : Nat → Nat → Int64} {R : Nat → Nat → Nat} {n p q br f k m : Int32} (hG : aGd R) (c1 : xEv L xs d 39 0 [.ref 15, .int n] [] (124, I, J, R) (some (.int br)) (124, I, J, R)) (c2 : xEv L xs d 39 0 [.ref 12, .int n] [] (124, I, J, R) (some (.int f)) (124, I, J, R)) (c3 : xEv L xs d 39 0 [.ref 64, .int p] [] (124, I, J, R) (some (.int k)) (124, I, J, R)) (b1 : k.toInt = 4) (c4 : xEv L xs d 39 0 [.ref 70, .int n] [] (124, I, J, R) (some (.int m)) (124, I, J, R)) (b2 : q.toInt = m.toInt) : xEv L xs (d + 1) 128 0 [.ref 63, .ref 3, .int n, .int p, .int q, xmk, xmk, xmk, xmk, xmk, xmk] [] (124, I, J, R) (some (.int 1)) (124, I, J, R) := by
  refine ev_go 1 (pc1 := 1) (lv1 := [.ref 63, .ref 3, .int n, .int p, .int q, xmk, xmk, xmk, xmk, xmk, xmk]) (st1 := [.ref 3]) (h1 := (124, I, J, R)) rfl ?_
  refine ev_gf (c := 3) (t := 17) (X := R 3 13) rfl rfl (fun _ => rfl) rfl (hG 3 13 17 rfl rfl) ?_
  refine ev_go 2 (pc1 := 7) (lv1 := [.ref 63, .ref 3, .int n, .int p, .int q, .ref 17, xmk, xmk, xmk, xmk, xmk]) (st1 := [.ref 3]) (h1 := (124, I, J, R)) rfl ?_
  refine ev_gf (c := 3) (t := 15) (X := R 3 11) rfl rfl (fun _ => rfl) rfl (hG 3 11 15 rfl rfl) ?_
  refine ev_go 1 (pc1 := 11) (lv1 := [.ref 63, .ref 3, .int n, .int p, .int q, .ref 17, xmk, xmk, xmk, xmk, xmk]) (st1 := [.int n, .ref 15]) (h1 := (124, I, J, R)) rfl ?_
  refine ev_call (v1 := (some (.int br))) (h1 := (124, I, J, R)) rfl rfl c1 ?_
  refine ev_go 2 (pc1 := 17) (lv1 := [.ref 63, .ref 3, .int n, .int p, .int q, .ref 17, .int br, xmk, xmk, xmk, xmk]) (st1 := [.ref 3]) (h1 := (124, I, J, R)) rfl ?_
  refine ev_gf (c := 3) (t := 12) (X := R 3 8) rfl rfl (fun _ => rfl) rfl (hG 3 8 12 rfl rfl) ?_
  refine ev_go 1 (pc1 := 21) (lv1 := [.ref 63, .ref 3, .int n, .int p, .int q, .ref 17, .int br, xmk, xmk, xmk, xmk]) (st1 := [.int n, .ref 12]) (h1 := (124, I, J, R)) rfl ?_
  refine ev_call (v1 := (some (.int f))) (h1 := (124, I, J, R)) rfl rfl c2 ?_
  refine ev_go 2 (pc1 := 27) (lv1 := [.ref 63, .ref 3, .int n, .int p, .int q, .ref 17, .int br, .int f, xmk, xmk, xmk]) (st1 := [.ref 63]) (h1 := (124, I, J, R)) rfl ?_
  refine ev_gf (c := 63) (t := 66) (X := R 63 3) rfl rfl (fun _ => rfl) rfl (hG 63 3 66 rfl rfl) ?_
  refine ev_go 5 (pc1 := 38) (lv1 := [.ref 63, .ref 3, .int n, .int p, .int q, .ref 17, .int br, .int f, .int ((I 66 5) + 1), xmk, xmk]) (st1 := [.ref 63]) (h1 := (124, I, J, R)) rfl ?_
  refine ev_gf (c := 63) (t := 64) (X := R 63 0) rfl rfl (fun _ => rfl) rfl (hG 63 0 64 rfl rfl) ?_
  refine ev_go 1 (pc1 := 42) (lv1 := [.ref 63, .ref 3, .int n, .int p, .int q, .ref 17, .int br, .int f, .int ((I 66 5) + 1), xmk, xmk]) (st1 := [.int p, .ref 64]) (h1 := (124, I, J, R)) rfl ?_
  refine ev_call (v1 := (some (.int k))) (h1 := (124, I, J, R)) rfl rfl c3 ?_
  refine ev_tk (x := k) (z := 4) (t := 162) rfl rfl b1 (by decide) rfl rfl ?_
  refine ev_go 2 (pc1 := 165) (lv1 := [.ref 63, .ref 3, .int n, .int p, .int q, .ref 17, .int br, .int f, .int ((I 66 5) + 1), xmk, xmk]) (st1 := [.ref 63, .int q]) (h1 := (124, I, J, R)) rfl ?_
  refine ev_gf (c := 63) (t := 66) (X := R 63 3) rfl rfl (fun _ => rfl) rfl (hG 63 3 66 rfl rfl) ?_
  refine ev_gf (c := 66) (t := 70) (X := R 66 3) rfl rfl (fun _ => rfl) rfl (hG 66 3 70 rfl rfl) ?_
  refine ev_go 1 (pc1 := 172) (lv1 := [.ref 63, .ref 3, .int n, .int p, .int q, .ref 17, .int br, .int f, .int ((I 66 5) + 1), xmk, xmk]) (st1 := [.int n, .ref 70, .int q]) (h1 := (124, I, J, R)) rfl ?_
  refine ev_call (v1 := (some (.int m))) (h1 := (124, I, J, R)) rfl rfl c4 ?_
  refine ev_br (b1 := false) rfl rfl (xcd_nne (x := q) (y := m) (by first | exact b2 | omega)) ?_
  refine ev_go 2 (pc1 := 183) (lv1 := [.ref 63, .ref 3, .int n, .int p, .int q, .ref 17, .int br, .int f, .int ((I 66 5) + 1), xmk, xmk]) (st1 := [.int 1]) (h1 := (124, I, J, R)) rfl ?_
  exact ev_ret rfl rfl
set_option maxRecDepth 20000 in
theorem uw5t_3 {L : Nat} {xs : Nat → Int32} {d : Nat} {I : Nat → Nat → Int32} {J : Nat → Nat → Int64} {R : Nat → Nat → Nat} {I1 : Nat → Nat → Int32} {J1 : Nat → Nat → Int64} {n p q br f k b : Int32} (hG : aGd R) (c1 : xEv L xs d 39 0 [.ref 15, .int n] [] (124, I, J, R) (some (.int br)) (124, I, J, R)) (c2 : xEv L xs d 39 0 [.ref 12, .int n] [] (124, I, J, R) (some (.int f)) (124, I, J, R)) (c3 : xEv L xs d 39 0 [.ref 64, .int p] [] (124, I, J, R) (some (.int k)) (124, I, J, R)) (b1 : k.toInt = 5) (c4 : xEv L xs d 39 0 [.ref 16, .int n] [] (124, I, J, R) (some (.int b)) (124, I, J, R)) (c5 : xEv L xs d 69 0 [.ref 53, .ref 17, .int br, .int f, .int ((I 66 5) + 1), .int b, xmk, xmk, xmk, xmk] [] (124, I, J, R) none (124, I1, J1, R)) (b2 : q.toInt = f.toInt) : xEv L xs (d + 1) 128 0 [.ref 63, .ref 3, .int n, .int p, .int q, xmk, xmk, xmk, xmk, xmk, xmk] [] (124, I, J, R) (some (.int 1)) (124, I1, J1, R) := by
  refine ev_go 1 (pc1 := 1) (lv1 := [.ref 63, .ref 3, .int n, .int p, .int q, xmk, xmk, xmk, xmk, xmk, xmk]) (st1 := [.ref 3]) (h1 := (124, I, J, R)) rfl ?_
  refine ev_gf (c := 3) (t := 17) (X := R 3 13) rfl rfl (fun _ => rfl) rfl (hG 3 13 17 rfl rfl) ?_
  refine ev_go 2 (pc1 := 7) (lv1 := [.ref 63, .ref 3, .int n, .int p, .int q, .ref 17, xmk, xmk, xmk, xmk, xmk]) (st1 := [.ref 3]) (h1 := (124, I, J, R)) rfl ?_
  refine ev_gf (c := 3) (t := 15) (X := R 3 11) rfl rfl (fun _ => rfl) rfl (hG 3 11 15 rfl rfl) ?_
  refine ev_go 1 (pc1 := 11) (lv1 := [.ref 63, .ref 3, .int n, .int p, .int q, .ref 17, xmk, xmk, xmk, xmk, xmk]) (st1 := [.int n, .ref 15]) (h1 := (124, I, J, R)) rfl ?_
  refine ev_call (v1 := (some (.int br))) (h1 := (124, I, J, R)) rfl rfl c1 ?_
  refine ev_go 2 (pc1 := 17) (lv1 := [.ref 63, .ref 3, .int n, .int p, .int q, .ref 17, .int br, xmk, xmk, xmk, xmk]) (st1 := [.ref 3]) (h1 := (124, I, J, R)) rfl ?_
  refine ev_gf (c := 3) (t := 12) (X := R 3 8) rfl rfl (fun _ => rfl) rfl (hG 3 8 12 rfl rfl) ?_
  refine ev_go 1 (pc1 := 21) (lv1 := [.ref 63, .ref 3, .int n, .int p, .int q, .ref 17, .int br, xmk, xmk, xmk, xmk]) (st1 := [.int n, .ref 12]) (h1 := (124, I, J, R)) rfl ?_
  refine ev_call (v1 := (some (.int f))) (h1 := (124, I, J, R)) rfl rfl c2 ?_
  refine ev_go 2 (pc1 := 27) (lv1 := [.ref 63, .ref 3, .int n, .int p, .int q, .ref 17, .int br, .int f, xmk, xmk, xmk]) (st1 := [.ref 63]) (h1 := (124, I, J, R)) rfl ?_
  refine ev_gf (c := 63) (t := 66) (X := R 63 3) rfl rfl (fun _ => rfl) rfl (hG 63 3 66 rfl rfl) ?_
  refine ev_go 5 (pc1 := 38) (lv1 := [.ref 63, .ref 3, .int n, .int p, .int q, .ref 17, .int br, .int f, .int ((I 66 5) + 1), xmk, xmk]) (st1 := [.ref 63]) (h1 := (124, I, J, R)) rfl ?_
  refine ev_gf (c := 63) (t := 64) (X := R 63 0) rfl rfl (fun _ => rfl) rfl (hG 63 0 64 rfl rfl) ?_
  refine ev_go 1 (pc1 := 42) (lv1 := [.ref 63, .ref 3, .int n, .int p, .int q, .ref 17, .int br, .int f, .int ((I 66 5) + 1), xmk, xmk]) (st1 := [.int p, .ref 64]) (h1 := (124, I, J, R)) rfl ?_
  refine ev_call (v1 := (some (.int k))) (h1 := (124, I, J, R)) rfl rfl c3 ?_
  refine ev_tk (x := k) (z := 5) (t := 184) rfl rfl b1 (by decide) rfl rfl ?_
  refine ev_go 1 (pc1 := 185) (lv1 := [.ref 63, .ref 3, .int n, .int p, .int q, .ref 17, .int br, .int f, .int ((I 66 5) + 1), xmk, xmk]) (st1 := [.ref 63]) (h1 := (124, I, J, R)) rfl ?_
  refine ev_gf (c := 63) (t := 53) (X := R 63 2) rfl rfl (fun _ => rfl) rfl (hG 63 2 53 rfl rfl) ?_
  refine ev_go 5 (pc1 := 197) (lv1 := [.ref 63, .ref 3, .int n, .int p, .int q, .ref 17, .int br, .int f, .int ((I 66 5) + 1), xmk, xmk]) (st1 := [.ref 3, .int ((I 66 5) + 1), .int f, .int br, .ref 17, .ref 53]) (h1 := (124, I, J, R)) rfl ?_
  refine ev_gf (c := 3) (t := 16) (X := R 3 12) rfl rfl (fun _ => rfl) rfl (hG 3 12 16 rfl rfl) ?_
  refine ev_go 1 (pc1 := 201) (lv1 := [.ref 63, .ref 3, .int n, .int p, .int q, .ref 17, .int br, .int f, .int ((I 66 5) + 1), xmk, xmk]) (st1 := [.int n, .ref 16, .int ((I 66 5) + 1), .int f, .int br, .ref 17, .ref 53]) (h1 := (124, I, J, R)) rfl ?_
  refine ev_call (v1 := (some (.int b))) (h1 := (124, I, J, R)) rfl rfl c4 ?_
  refine ev_call (v1 := none) (h1 := (124, I1, J1, R)) rfl rfl c5 ?_
  refine ev_go 2 (pc1 := 211) (lv1 := [.ref 63, .ref 3, .int n, .int p, .int q, .ref 17, .int br, .int f, .int ((I 66 5) + 1), xmk, xmk]) (st1 := [.int f, .int q]) (h1 := (124, I1, J1, R)) rfl ?_
  refine ev_br (b1 := true) rfl rfl (xcd_eq (x := q) (y := f) (by first | exact b2 | omega)) ?_
  refine ev_go 2 (pc1 := 232) (lv1 := [.ref 63, .ref 3, .int n, .int p, .int q, .ref 17, .int br, .int f, .int ((I 66 5) + 1), xmk, xmk]) (st1 := [.int 1]) (h1 := (124, I1, J1, R)) rfl ?_
  exact ev_ret rfl rfl
set_option maxRecDepth 20000 in
theorem uw5y_3 {L : Nat} {xs : Nat → Int32} {d : Nat} {I : Nat → Nat → Int32} {J : Nat → Nat → Int64} {R : Nat → Nat → Nat} {I1 : Nat → Nat → Int32} {J1 : Nat → Nat → Int64} {n p q br f k b o : Int32} (hG : aGd R) (c1 : xEv L xs d 39 0 [.ref 15, .int n] [] (124, I, J, R) (some (.int br)) (124, I, J, R)) (c2 : xEv L xs d 39 0 [.ref 12, .int n] [] (124, I, J, R) (some (.int f)) (124, I, J, R)) (c3 : xEv L xs d 39 0 [.ref 64, .int p] [] (124, I, J, R) (some (.int k)) (124, I, J, R)) (b1 : k.toInt = 5) (c4 : xEv L xs d 39 0 [.ref 16, .int n] [] (124, I, J, R) (some (.int b)) (124, I, J, R)) (c5 : xEv L xs d 69 0 [.ref 53, .ref 17, .int br, .int f, .int ((I 66 5) + 1), .int b, xmk, xmk, xmk, xmk] [] (124, I, J, R) none (124, I1, J1, R)) (b2 : q.toInt ≠ f.toInt) (c6 : xEv L xs d 72 0 [.ref 53, .int q, .int p, xmk, xmk] [] (124, I1, J1, R) (some (.int o)) (124, I1, J1, R)) (b3 : o.toInt > 0) : xEv L xs (d + 1) 128 0 [.ref 63, .ref 3, .int n, .int p, .int q, xmk, xmk, xmk, xmk, xmk, xmk] [] (124, I, J, R) (some (.int 1)) (124, I1, J1, R) := by
  refine ev_go 1 (pc1 := 1) (lv1 := [.ref 63, .ref 3, .int n, .int p, .int q, xmk, xmk, xmk, xmk, xmk, xmk]) (st1 := [.ref 3]) (h1 := (124, I, J, R)) rfl ?_
  refine ev_gf (c := 3) (t := 17) (X := R 3 13) rfl rfl (fun _ => rfl) rfl (hG 3 13 17 rfl rfl) ?_
  refine ev_go 2 (pc1 := 7) (lv1 := [.ref 63, .ref 3, .int n, .int p, .int q, .ref 17, xmk, xmk, xmk, xmk, xmk]) (st1 := [.ref 3]) (h1 := (124, I, J, R)) rfl ?_
  refine ev_gf (c := 3) (t := 15) (X := R 3 11) rfl rfl (fun _ => rfl) rfl (hG 3 11 15 rfl rfl) ?_
  refine ev_go 1 (pc1 := 11) (lv1 := [.ref 63, .ref 3, .int n, .int p, .int q, .ref 17, xmk, xmk, xmk, xmk, xmk]) (st1 := [.int n, .ref 15]) (h1 := (124, I, J, R)) rfl ?_
  refine ev_call (v1 := (some (.int br))) (h1 := (124, I, J, R)) rfl rfl c1 ?_
  refine ev_go 2 (pc1 := 17) (lv1 := [.ref 63, .ref 3, .int n, .int p, .int q, .ref 17, .int br, xmk, xmk, xmk, xmk]) (st1 := [.ref 3]) (h1 := (124, I, J, R)) rfl ?_
  refine ev_gf (c := 3) (t := 12) (X := R 3 8) rfl rfl (fun _ => rfl) rfl (hG 3 8 12 rfl rfl) ?_
  refine ev_go 1 (pc1 := 21) (lv1 := [.ref 63, .ref 3, .int n, .int p, .int q, .ref 17, .int br, xmk, xmk, xmk, xmk]) (st1 := [.int n, .ref 12]) (h1 := (124, I, J, R)) rfl ?_
  refine ev_call (v1 := (some (.int f))) (h1 := (124, I, J, R)) rfl rfl c2 ?_
  refine ev_go 2 (pc1 := 27) (lv1 := [.ref 63, .ref 3, .int n, .int p, .int q, .ref 17, .int br, .int f, xmk, xmk, xmk]) (st1 := [.ref 63]) (h1 := (124, I, J, R)) rfl ?_
  refine ev_gf (c := 63) (t := 66) (X := R 63 3) rfl rfl (fun _ => rfl) rfl (hG 63 3 66 rfl rfl) ?_
  refine ev_go 5 (pc1 := 38) (lv1 := [.ref 63, .ref 3, .int n, .int p, .int q, .ref 17, .int br, .int f, .int ((I 66 5) + 1), xmk, xmk]) (st1 := [.ref 63]) (h1 := (124, I, J, R)) rfl ?_
  refine ev_gf (c := 63) (t := 64) (X := R 63 0) rfl rfl (fun _ => rfl) rfl (hG 63 0 64 rfl rfl) ?_
  refine ev_go 1 (pc1 := 42) (lv1 := [.ref 63, .ref 3, .int n, .int p, .int q, .ref 17, .int br, .int f, .int ((I 66 5) + 1), xmk, xmk]) (st1 := [.int p, .ref 64]) (h1 := (124, I, J, R)) rfl ?_
  refine ev_call (v1 := (some (.int k))) (h1 := (124, I, J, R)) rfl rfl c3 ?_
  refine ev_tk (x := k) (z := 5) (t := 184) rfl rfl b1 (by decide) rfl rfl ?_
  refine ev_go 1 (pc1 := 185) (lv1 := [.ref 63, .ref 3, .int n, .int p, .int q, .ref 17, .int br, .int f, .int ((I 66 5) + 1), xmk, xmk]) (st1 := [.ref 63]) (h1 := (124, I, J, R)) rfl ?_
  refine ev_gf (c := 63) (t := 53) (X := R 63 2) rfl rfl (fun _ => rfl) rfl (hG 63 2 53 rfl rfl) ?_
  refine ev_go 5 (pc1 := 197) (lv1 := [.ref 63, .ref 3, .int n, .int p, .int q, .ref 17, .int br, .int f, .int ((I 66 5) + 1), xmk, xmk]) (st1 := [.ref 3, .int ((I 66 5) + 1), .int f, .int br, .ref 17, .ref 53]) (h1 := (124, I, J, R)) rfl ?_
  refine ev_gf (c := 3) (t := 16) (X := R 3 12) rfl rfl (fun _ => rfl) rfl (hG 3 12 16 rfl rfl) ?_
  refine ev_go 1 (pc1 := 201) (lv1 := [.ref 63, .ref 3, .int n, .int p, .int q, .ref 17, .int br, .int f, .int ((I 66 5) + 1), xmk, xmk]) (st1 := [.int n, .ref 16, .int ((I 66 5) + 1), .int f, .int br, .ref 17, .ref 53]) (h1 := (124, I, J, R)) rfl ?_
  refine ev_call (v1 := (some (.int b))) (h1 := (124, I, J, R)) rfl rfl c4 ?_
  refine ev_call (v1 := none) (h1 := (124, I1, J1, R)) rfl rfl c5 ?_
  refine ev_go 2 (pc1 := 211) (lv1 := [.ref 63, .ref 3, .int n, .int p, .int q, .ref 17, .int br, .int f, .int ((I 66 5) + 1), xmk, xmk]) (st1 := [.int f, .int q]) (h1 := (124, I1, J1, R)) rfl ?_
  refine ev_br (b1 := false) rfl rfl (xcd_neq (x := q) (y := f) (by first | exact b2 | omega)) ?_
  refine ev_go 1 (pc1 := 215) (lv1 := [.ref 63, .ref 3, .int n, .int p, .int q, .ref 17, .int br, .int f, .int ((I 66 5) + 1), xmk, xmk]) (st1 := [.ref 63]) (h1 := (124, I1, J1, R)) rfl ?_
  refine ev_gf (c := 63) (t := 53) (X := R 63 2) rfl rfl (fun _ => rfl) rfl (hG 63 2 53 rfl rfl) ?_
  refine ev_go 2 (pc1 := 221) (lv1 := [.ref 63, .ref 3, .int n, .int p, .int q, .ref 17, .int br, .int f, .int ((I 66 5) + 1), xmk, xmk]) (st1 := [.int p, .int q, .ref 53]) (h1 := (124, I1, J1, R)) rfl ?_
  refine ev_call (v1 := (some (.int o))) (h1 := (124, I1, J1, R)) rfl rfl c6 ?_
  refine ev_br (b1 := false) rfl rfl (xcd_nle (x := o) (y := 0) (by rw [show ((0 : Int32)).toInt = 0 from by decide]; first | exact b3 | omega)) ?_
  refine ev_go 2 (pc1 := 232) (lv1 := [.ref 63, .ref 3, .int n, .int p, .int q, .ref 17, .int br, .int f, .int ((I 66 5) + 1), xmk, xmk]) (st1 := [.int 1]) (h1 := (124, I1, J1, R)) rfl ?_
  exact ev_ret rfl rfl
set_option maxRecDepth 20000 in
theorem uw5n_3 {L : Nat} {xs : Nat → Int32} {d : Nat} {I : Nat → Nat → Int32} {J : Nat → Nat → Int64} {R : Nat → Nat → Nat} {I1 : Nat → Nat → Int32} {J1 : Nat → Nat → Int64} {n p q br f k b o : Int32} (hG : aGd R) (c1 : xEv L xs d 39 0 [.ref 15, .int n] [] (124, I, J, R) (some (.int br)) (124, I, J, R)) (c2 : xEv L xs d 39 0 [.ref 12, .int n] [] (124, I, J, R) (some (.int f)) (124, I, J, R)) (c3 : xEv L xs d 39 0 [.ref 64, .int p] [] (124, I, J, R) (some (.int k)) (124, I, J, R)) (b1 : k.toInt = 5) (c4 : xEv L xs d 39 0 [.ref 16, .int n] [] (124, I, J, R) (some (.int b)) (124, I, J, R)) (c5 : xEv L xs d 69 0 [.ref 53, .ref 17, .int br, .int f, .int ((I 66 5) + 1), .int b, xmk, xmk, xmk, xmk] [] (124, I, J, R) none (124, I1, J1, R)) (b2 : q.toInt ≠ f.toInt) (c6 : xEv L xs d 72 0 [.ref 53, .int q, .int p, xmk, xmk] [] (124, I1, J1, R) (some (.int o)) (124, I1, J1, R)) (b3 : o.toInt ≤ 0) : xEv L xs (d + 1) 128 0 [.ref 63, .ref 3, .int n, .int p, .int q, xmk, xmk, xmk, xmk, xmk, xmk] [] (124, I, J, R) (some (.int 0)) (124, I1, J1, R) := by
  refine ev_go 1 (pc1 := 1) (lv1 := [.ref 63, .ref 3, .int n, .int p, .int q, xmk, xmk, xmk, xmk, xmk, xmk]) (st1 := [.ref 3]) (h1 := (124, I, J, R)) rfl ?_
  refine ev_gf (c := 3) (t := 17) (X := R 3 13) rfl rfl (fun _ => rfl) rfl (hG 3 13 17 rfl rfl) ?_
  refine ev_go 2 (pc1 := 7) (lv1 := [.ref 63, .ref 3, .int n, .int p, .int q, .ref 17, xmk, xmk, xmk, xmk, xmk]) (st1 := [.ref 3]) (h1 := (124, I, J, R)) rfl ?_
  refine ev_gf (c := 3) (t := 15) (X := R 3 11) rfl rfl (fun _ => rfl) rfl (hG 3 11 15 rfl rfl) ?_
  refine ev_go 1 (pc1 := 11) (lv1 := [.ref 63, .ref 3, .int n, .int p, .int q, .ref 17, xmk, xmk, xmk, xmk, xmk]) (st1 := [.int n, .ref 15]) (h1 := (124, I, J, R)) rfl ?_
  refine ev_call (v1 := (some (.int br))) (h1 := (124, I, J, R)) rfl rfl c1 ?_
  refine ev_go 2 (pc1 := 17) (lv1 := [.ref 63, .ref 3, .int n, .int p, .int q, .ref 17, .int br, xmk, xmk, xmk, xmk]) (st1 := [.ref 3]) (h1 := (124, I, J, R)) rfl ?_
  refine ev_gf (c := 3) (t := 12) (X := R 3 8) rfl rfl (fun _ => rfl) rfl (hG 3 8 12 rfl rfl) ?_
  refine ev_go 1 (pc1 := 21) (lv1 := [.ref 63, .ref 3, .int n, .int p, .int q, .ref 17, .int br, xmk, xmk, xmk, xmk]) (st1 := [.int n, .ref 12]) (h1 := (124, I, J, R)) rfl ?_
  refine ev_call (v1 := (some (.int f))) (h1 := (124, I, J, R)) rfl rfl c2 ?_
  refine ev_go 2 (pc1 := 27) (lv1 := [.ref 63, .ref 3, .int n, .int p, .int q, .ref 17, .int br, .int f, xmk, xmk, xmk]) (st1 := [.ref 63]) (h1 := (124, I, J, R)) rfl ?_
  refine ev_gf (c := 63) (t := 66) (X := R 63 3) rfl rfl (fun _ => rfl) rfl (hG 63 3 66 rfl rfl) ?_
  refine ev_go 5 (pc1 := 38) (lv1 := [.ref 63, .ref 3, .int n, .int p, .int q, .ref 17, .int br, .int f, .int ((I 66 5) + 1), xmk, xmk]) (st1 := [.ref 63]) (h1 := (124, I, J, R)) rfl ?_
  refine ev_gf (c := 63) (t := 64) (X := R 63 0) rfl rfl (fun _ => rfl) rfl (hG 63 0 64 rfl rfl) ?_
  refine ev_go 1 (pc1 := 42) (lv1 := [.ref 63, .ref 3, .int n, .int p, .int q, .ref 17, .int br, .int f, .int ((I 66 5) + 1), xmk, xmk]) (st1 := [.int p, .ref 64]) (h1 := (124, I, J, R)) rfl ?_
  refine ev_call (v1 := (some (.int k))) (h1 := (124, I, J, R)) rfl rfl c3 ?_
  refine ev_tk (x := k) (z := 5) (t := 184) rfl rfl b1 (by decide) rfl rfl ?_
  refine ev_go 1 (pc1 := 185) (lv1 := [.ref 63, .ref 3, .int n, .int p, .int q, .ref 17, .int br, .int f, .int ((I 66 5) + 1), xmk, xmk]) (st1 := [.ref 63]) (h1 := (124, I, J, R)) rfl ?_
  refine ev_gf (c := 63) (t := 53) (X := R 63 2) rfl rfl (fun _ => rfl) rfl (hG 63 2 53 rfl rfl) ?_
  refine ev_go 5 (pc1 := 197) (lv1 := [.ref 63, .ref 3, .int n, .int p, .int q, .ref 17, .int br, .int f, .int ((I 66 5) + 1), xmk, xmk]) (st1 := [.ref 3, .int ((I 66 5) + 1), .int f, .int br, .ref 17, .ref 53]) (h1 := (124, I, J, R)) rfl ?_
  refine ev_gf (c := 3) (t := 16) (X := R 3 12) rfl rfl (fun _ => rfl) rfl (hG 3 12 16 rfl rfl) ?_
  refine ev_go 1 (pc1 := 201) (lv1 := [.ref 63, .ref 3, .int n, .int p, .int q, .ref 17, .int br, .int f, .int ((I 66 5) + 1), xmk, xmk]) (st1 := [.int n, .ref 16, .int ((I 66 5) + 1), .int f, .int br, .ref 17, .ref 53]) (h1 := (124, I, J, R)) rfl ?_
  refine ev_call (v1 := (some (.int b))) (h1 := (124, I, J, R)) rfl rfl c4 ?_
  refine ev_call (v1 := none) (h1 := (124, I1, J1, R)) rfl rfl c5 ?_
  refine ev_go 2 (pc1 := 211) (lv1 := [.ref 63, .ref 3, .int n, .int p, .int q, .ref 17, .int br, .int f, .int ((I 66 5) + 1), xmk, xmk]) (st1 := [.int f, .int q]) (h1 := (124, I1, J1, R)) rfl ?_
  refine ev_br (b1 := false) rfl rfl (xcd_neq (x := q) (y := f) (by first | exact b2 | omega)) ?_
  refine ev_go 1 (pc1 := 215) (lv1 := [.ref 63, .ref 3, .int n, .int p, .int q, .ref 17, .int br, .int f, .int ((I 66 5) + 1), xmk, xmk]) (st1 := [.ref 63]) (h1 := (124, I1, J1, R)) rfl ?_
  refine ev_gf (c := 63) (t := 53) (X := R 63 2) rfl rfl (fun _ => rfl) rfl (hG 63 2 53 rfl rfl) ?_
  refine ev_go 2 (pc1 := 221) (lv1 := [.ref 63, .ref 3, .int n, .int p, .int q, .ref 17, .int br, .int f, .int ((I 66 5) + 1), xmk, xmk]) (st1 := [.int p, .int q, .ref 53]) (h1 := (124, I1, J1, R)) rfl ?_
  refine ev_call (v1 := (some (.int o))) (h1 := (124, I1, J1, R)) rfl rfl c6 ?_
  refine ev_br (b1 := true) rfl rfl (xcd_le (x := o) (y := 0) (by rw [show ((0 : Int32)).toInt = 0 from by decide]; first | exact b3 | omega)) ?_
  refine ev_go 1 (pc1 := 232) (lv1 := [.ref 63, .ref 3, .int n, .int p, .int q, .ref 17, .int br, .int f, .int ((I 66 5) + 1), xmk, xmk]) (st1 := [.int 0]) (h1 := (124, I1, J1, R)) rfl ?_
  exact ev_ret rfl rfl
set_option maxRecDepth 20000 in
theorem um0_23 {L : Nat} {xs : Nat → Int32} {d : Nat} {I : Nat → Nat → Int32} {J : Nat → Nat → Int64} {R : Nat → Nat → Nat} {n p q f : Int32} (hG : aGd R) (c1 : xEv L xs d 39 0 [.ref 32, .int n] [] (124, I, J, R) (some (.int f)) (124, I, J, R)) (b1 : p.toInt = f.toInt) : xEv L xs (d + 1) 127 0 [.ref 63, .ref 23, .int n, .int p, .int q] [] (124, I, J, R) (some (.int 0)) (124, I, J, R) := by
  refine ev_go 2 (pc1 := 2) (lv1 := [.ref 63, .ref 23, .int n, .int p, .int q]) (st1 := [.ref 23, .int p]) (h1 := (124, I, J, R)) rfl ?_
  refine ev_gf (c := 23) (t := 32) (X := R 23 8) rfl rfl (fun _ => rfl) rfl (hG 23 8 32 rfl rfl) ?_
  refine ev_go 1 (pc1 := 6) (lv1 := [.ref 63, .ref 23, .int n, .int p, .int q]) (st1 := [.int n, .ref 32, .int p]) (h1 := (124, I, J, R)) rfl ?_
  refine ev_call (v1 := (some (.int f))) (h1 := (124, I, J, R)) rfl rfl c1 ?_
  refine ev_br (b1 := true) rfl rfl (xcd_eq (x := p) (y := f) (by first | exact b1 | omega)) ?_
  refine ev_go 1 (pc1 := 88) (lv1 := [.ref 63, .ref 23, .int n, .int p, .int q]) (st1 := [.int 0]) (h1 := (124, I, J, R)) rfl ?_
  exact ev_ret rfl rfl
set_option maxRecDepth 20000 in
theorem um1_23 {L : Nat} {xs : Nat → Int32} {d : Nat} {I : Nat → Nat → Int32} {J : Nat → Nat → Int64} {R : Nat → Nat → Nat} {n p q f : Int32} (hG : aGd R) (c1 : xEv L xs d 39 0 [.ref 32, .int n] [] (124, I, J, R) (some (.int f)) (124, I, J, R)) (b1 : p.toInt ≠ f.toInt) (b2 : (((I 66 6) >>> (p &&& 31)) &&& 1).toInt ≠ 1) : xEv L xs (d + 1) 127 0 [.ref 63, .ref 23, .int n, .int p, .int q] [] (124, I, J, R) (some (.int 0)) (124, I, J, R) := by
  refine ev_go 2 (pc1 := 2) (lv1 := [.ref 63, .ref 23, .int n, .int p, .int q]) (st1 := [.ref 23, .int p]) (h1 := (124, I, J, R)) rfl ?_
  refine ev_gf (c := 23) (t := 32) (X := R 23 8) rfl rfl (fun _ => rfl) rfl (hG 23 8 32 rfl rfl) ?_
  refine ev_go 1 (pc1 := 6) (lv1 := [.ref 63, .ref 23, .int n, .int p, .int q]) (st1 := [.int n, .ref 32, .int p]) (h1 := (124, I, J, R)) rfl ?_
  refine ev_call (v1 := (some (.int f))) (h1 := (124, I, J, R)) rfl rfl c1 ?_
  refine ev_br (b1 := false) rfl rfl (xcd_neq (x := p) (y := f) (by first | exact b1 | omega)) ?_
  refine ev_go 1 (pc1 := 13) (lv1 := [.ref 63, .ref 23, .int n, .int p, .int q]) (st1 := [.ref 63]) (h1 := (124, I, J, R)) rfl ?_
  refine ev_gf (c := 63) (t := 66) (X := R 63 3) rfl rfl (fun _ => rfl) rfl (hG 63 3 66 rfl rfl) ?_
  refine ev_go 2 (pc1 := 20) (lv1 := [.ref 63, .ref 23, .int n, .int p, .int q]) (st1 := [.int p, .int (I 66 6)]) (h1 := (124, I, J, R)) rfl ?_
  refine ev_go 4 (pc1 := 24) (lv1 := [.ref 63, .ref 23, .int n, .int p, .int q]) (st1 := [.int 1, .int (((I 66 6) >>> (p &&& 31)) &&& 1)]) (h1 := (124, I, J, R)) rfl ?_
  refine ev_br (b1 := true) rfl rfl (xcd_ne (x := (((I 66 6) >>> (p &&& 31)) &&& 1)) (y := 1) (by rw [show ((1 : Int32)).toInt = 1 from by decide]; first | exact b2 | omega)) ?_
  refine ev_go 1 (pc1 := 88) (lv1 := [.ref 63, .ref 23, .int n, .int p, .int q]) (st1 := [.int 0]) (h1 := (124, I, J, R)) rfl ?_
  exact ev_ret rfl rfl
set_option maxRecDepth 20000 in
theorem um2_23 {L : Nat} {xs : Nat → Int32} {d : Nat} {I : Nat → Nat → Int32} {J : Nat → Nat → Int64} {R : Nat → Nat → Nat} {n p q f : Int32} (hG : aGd R) (c1 : xEv L xs d 39 0 [.ref 32, .int n] [] (124, I, J, R) (some (.int f)) (124, I, J, R)) (b1 : p.toInt ≠ f.toInt) (b2 : (((I 66 6) >>> (p &&& 31)) &&& 1).toInt = 1) (b3 : (((I 66 6) >>> (q &&& 31)) &&& 1).toInt ≠ 1) : xEv L xs (d + 1) 127 0 [.ref 63, .ref 23, .int n, .int p, .int q] [] (124, I, J, R) (some (.int 0)) (124, I, J, R) := by
  refine ev_go 2 (pc1 := 2) (lv1 := [.ref 63, .ref 23, .int n, .int p, .int q]) (st1 := [.ref 23, .int p]) (h1 := (124, I, J, R)) rfl ?_
  refine ev_gf (c := 23) (t := 32) (X := R 23 8) rfl rfl (fun _ => rfl) rfl (hG 23 8 32 rfl rfl) ?_
  refine ev_go 1 (pc1 := 6) (lv1 := [.ref 63, .ref 23, .int n, .int p, .int q]) (st1 := [.int n, .ref 32, .int p]) (h1 := (124, I, J, R)) rfl ?_
  refine ev_call (v1 := (some (.int f))) (h1 := (124, I, J, R)) rfl rfl c1 ?_
  refine ev_br (b1 := false) rfl rfl (xcd_neq (x := p) (y := f) (by first | exact b1 | omega)) ?_
  refine ev_go 1 (pc1 := 13) (lv1 := [.ref 63, .ref 23, .int n, .int p, .int q]) (st1 := [.ref 63]) (h1 := (124, I, J, R)) rfl ?_
  refine ev_gf (c := 63) (t := 66) (X := R 63 3) rfl rfl (fun _ => rfl) rfl (hG 63 3 66 rfl rfl) ?_
  refine ev_go 2 (pc1 := 20) (lv1 := [.ref 63, .ref 23, .int n, .int p, .int q]) (st1 := [.int p, .int (I 66 6)]) (h1 := (124, I, J, R)) rfl ?_
  refine ev_go 4 (pc1 := 24) (lv1 := [.ref 63, .ref 23, .int n, .int p, .int q]) (st1 := [.int 1, .int (((I 66 6) >>> (p &&& 31)) &&& 1)]) (h1 := (124, I, J, R)) rfl ?_
  refine ev_br (b1 := false) rfl rfl (xcd_nne (x := (((I 66 6) >>> (p &&& 31)) &&& 1)) (y := 1) (by rw [show ((1 : Int32)).toInt = 1 from by decide]; first | exact b2 | omega)) ?_
  refine ev_go 1 (pc1 := 28) (lv1 := [.ref 63, .ref 23, .int n, .int p, .int q]) (st1 := [.ref 63]) (h1 := (124, I, J, R)) rfl ?_
  refine ev_gf (c := 63) (t := 66) (X := R 63 3) rfl rfl (fun _ => rfl) rfl (hG 63 3 66 rfl rfl) ?_
  refine ev_go 2 (pc1 := 36) (lv1 := [.ref 63, .ref 23, .int n, .int p, .int q]) (st1 := [.int q, .int (I 66 6)]) (h1 := (124, I, J, R)) rfl ?_
  refine ev_go 4 (pc1 := 40) (lv1 := [.ref 63, .ref 23, .int n, .int p, .int q]) (st1 := [.int 1, .int (((I 66 6) >>> (q &&& 31)) &&& 1)]) (h1 := (124, I, J, R)) rfl ?_
  refine ev_br (b1 := true) rfl rfl (xcd_ne (x := (((I 66 6) >>> (q &&& 31)) &&& 1)) (y := 1) (by rw [show ((1 : Int32)).toInt = 1 from by decide]; first | exact b3 | omega)) ?_
  refine ev_go 1 (pc1 := 88) (lv1 := [.ref 63, .ref 23, .int n, .int p, .int q]) (st1 := [.int 0]) (h1 := (124, I, J, R)) rfl ?_
  exact ev_ret rfl rfl
set_option maxRecDepth 20000 in
theorem um3_23 {L : Nat} {xs : Nat → Int32} {d : Nat} {I : Nat → Nat → Int32} {J : Nat → Nat → Int64} {R : Nat → Nat → Nat} {n p q f g : Int32} (hG : aGd R) (c1 : xEv L xs d 39 0 [.ref 32, .int n] [] (124, I, J, R) (some (.int f)) (124, I, J, R)) (b1 : p.toInt ≠ f.toInt) (b2 : (((I 66 6) >>> (p &&& 31)) &&& 1).toInt = 1) (b3 : (((I 66 6) >>> (q &&& 31)) &&& 1).toInt = 1) (c2 : xEv L xs d 39 0 [.ref 35, .int n] [] (124, I, J, R) (some (.int g)) (124, I, J, R)) (b4 : ((g >>> (q &&& 31)) &&& 1).toInt ≠ 0) : xEv L xs (d + 1) 127 0 [.ref 63, .ref 23, .int n, .int p, .int q] [] (124, I, J, R) (some (.int 0)) (124, I, J, R) := by
  refine ev_go 2 (pc1 := 2) (lv1 := [.ref 63, .ref 23, .int n, .int p, .int q]) (st1 := [.ref 23, .int p]) (h1 := (124, I, J, R)) rfl ?_
  refine ev_gf (c := 23) (t := 32) (X := R 23 8) rfl rfl (fun _ => rfl) rfl (hG 23 8 32 rfl rfl) ?_
  refine ev_go 1 (pc1 := 6) (lv1 := [.ref 63, .ref 23, .int n, .int p, .int q]) (st1 := [.int n, .ref 32, .int p]) (h1 := (124, I, J, R)) rfl ?_
  refine ev_call (v1 := (some (.int f))) (h1 := (124, I, J, R)) rfl rfl c1 ?_
  refine ev_br (b1 := false) rfl rfl (xcd_neq (x := p) (y := f) (by first | exact b1 | omega)) ?_
  refine ev_go 1 (pc1 := 13) (lv1 := [.ref 63, .ref 23, .int n, .int p, .int q]) (st1 := [.ref 63]) (h1 := (124, I, J, R)) rfl ?_
  refine ev_gf (c := 63) (t := 66) (X := R 63 3) rfl rfl (fun _ => rfl) rfl (hG 63 3 66 rfl rfl) ?_
  refine ev_go 2 (pc1 := 20) (lv1 := [.ref 63, .ref 23, .int n, .int p, .int q]) (st1 := [.int p, .int (I 66 6)]) (h1 := (124, I, J, R)) rfl ?_
  refine ev_go 4 (pc1 := 24) (lv1 := [.ref 63, .ref 23, .int n, .int p, .int q]) (st1 := [.int 1, .int (((I 66 6) >>> (p &&& 31)) &&& 1)]) (h1 := (124, I, J, R)) rfl ?_
  refine ev_br (b1 := false) rfl rfl (xcd_nne (x := (((I 66 6) >>> (p &&& 31)) &&& 1)) (y := 1) (by rw [show ((1 : Int32)).toInt = 1 from by decide]; first | exact b2 | omega)) ?_
  refine ev_go 1 (pc1 := 28) (lv1 := [.ref 63, .ref 23, .int n, .int p, .int q]) (st1 := [.ref 63]) (h1 := (124, I, J, R)) rfl ?_
  refine ev_gf (c := 63) (t := 66) (X := R 63 3) rfl rfl (fun _ => rfl) rfl (hG 63 3 66 rfl rfl) ?_
  refine ev_go 2 (pc1 := 36) (lv1 := [.ref 63, .ref 23, .int n, .int p, .int q]) (st1 := [.int q, .int (I 66 6)]) (h1 := (124, I, J, R)) rfl ?_
  refine ev_go 4 (pc1 := 40) (lv1 := [.ref 63, .ref 23, .int n, .int p, .int q]) (st1 := [.int 1, .int (((I 66 6) >>> (q &&& 31)) &&& 1)]) (h1 := (124, I, J, R)) rfl ?_
  refine ev_br (b1 := false) rfl rfl (xcd_nne (x := (((I 66 6) >>> (q &&& 31)) &&& 1)) (y := 1) (by rw [show ((1 : Int32)).toInt = 1 from by decide]; first | exact b3 | omega)) ?_
  refine ev_go 1 (pc1 := 44) (lv1 := [.ref 63, .ref 23, .int n, .int p, .int q]) (st1 := [.ref 23]) (h1 := (124, I, J, R)) rfl ?_
  refine ev_gf (c := 23) (t := 35) (X := R 23 11) rfl rfl (fun _ => rfl) rfl (hG 23 11 35 rfl rfl) ?_
  refine ev_go 1 (pc1 := 48) (lv1 := [.ref 63, .ref 23, .int n, .int p, .int q]) (st1 := [.int n, .ref 35]) (h1 := (124, I, J, R)) rfl ?_
  refine ev_call (v1 := (some (.int g))) (h1 := (124, I, J, R)) rfl rfl c2 ?_
  refine ev_go 1 (pc1 := 53) (lv1 := [.ref 63, .ref 23, .int n, .int p, .int q]) (st1 := [.int q, .int g]) (h1 := (124, I, J, R)) rfl ?_
  refine ev_go 3 (pc1 := 56) (lv1 := [.ref 63, .ref 23, .int n, .int p, .int q]) (st1 := [.int ((g >>> (q &&& 31)) &&& 1)]) (h1 := (124, I, J, R)) rfl ?_
  refine ev_br (b1 := true) rfl rfl (xcd_ne (x := ((g >>> (q &&& 31)) &&& 1)) (y := 0) (by rw [show ((0 : Int32)).toInt = 0 from by decide]; first | exact b4 | omega)) ?_
  refine ev_go 1 (pc1 := 88) (lv1 := [.ref 63, .ref 23, .int n, .int p, .int q]) (st1 := [.int 0]) (h1 := (124, I, J, R)) rfl ?_
  exact ev_ret rfl rfl
set_option maxRecDepth 20000 in
theorem um4_23 {L : Nat} {xs : Nat → Int32} {d : Nat} {I : Nat → Nat → Int32} {J : Nat → Nat → Int64} {R : Nat → Nat → Nat} {n p q f g s c o : Int32} (hG : aGd R) (c1 : xEv L xs d 39 0 [.ref 32, .int n] [] (124, I, J, R) (some (.int f)) (124, I, J, R)) (b1 : p.toInt ≠ f.toInt) (b2 : (((I 66 6) >>> (p &&& 31)) &&& 1).toInt = 1) (b3 : (((I 66 6) >>> (q &&& 31)) &&& 1).toInt = 1) (c2 : xEv L xs d 39 0 [.ref 35, .int n] [] (124, I, J, R) (some (.int g)) (124, I, J, R)) (b4 : ((g >>> (q &&& 31)) &&& 1).toInt = 0) (c3 : xEv L xs d 125 0 [.ref 66, .int q, xmk, xmk] [] (124, I, J, R) (some (.int s)) (124, I, J, R)) (c4 : xEv L xs d 90 0 [.int s] [] (124, I, J, R) (some (.int c)) (124, I, J, R)) (c5 : xEv L xs d 39 0 [.ref 25, .int q] [] (124, I, J, R) (some (.int o)) (124, I, J, R)) (b5 : c.toInt ≥ o.toInt) : xEv L xs (d + 1) 127 0 [.ref 63, .ref 23, .int n, .int p, .int q] [] (124, I, J, R) (some (.int 0)) (124, I, J, R) := by
  refine ev_go 2 (pc1 := 2) (lv1 := [.ref 63, .ref 23, .int n, .int p, .int q]) (st1 := [.ref 23, .int p]) (h1 := (124, I, J, R)) rfl ?_
  refine ev_gf (c := 23) (t := 32) (X := R 23 8) rfl rfl (fun _ => rfl) rfl (hG 23 8 32 rfl rfl) ?_
  refine ev_go 1 (pc1 := 6) (lv1 := [.ref 63, .ref 23, .int n, .int p, .int q]) (st1 := [.int n, .ref 32, .int p]) (h1 := (124, I, J, R)) rfl ?_
  refine ev_call (v1 := (some (.int f))) (h1 := (124, I, J, R)) rfl rfl c1 ?_
  refine ev_br (b1 := false) rfl rfl (xcd_neq (x := p) (y := f) (by first | exact b1 | omega)) ?_
  refine ev_go 1 (pc1 := 13) (lv1 := [.ref 63, .ref 23, .int n, .int p, .int q]) (st1 := [.ref 63]) (h1 := (124, I, J, R)) rfl ?_
  refine ev_gf (c := 63) (t := 66) (X := R 63 3) rfl rfl (fun _ => rfl) rfl (hG 63 3 66 rfl rfl) ?_
  refine ev_go 2 (pc1 := 20) (lv1 := [.ref 63, .ref 23, .int n, .int p, .int q]) (st1 := [.int p, .int (I 66 6)]) (h1 := (124, I, J, R)) rfl ?_
  refine ev_go 4 (pc1 := 24) (lv1 := [.ref 63, .ref 23, .int n, .int p, .int q]) (st1 := [.int 1, .int (((I 66 6) >>> (p &&& 31)) &&& 1)]) (h1 := (124, I, J, R)) rfl ?_
  refine ev_br (b1 := false) rfl rfl (xcd_nne (x := (((I 66 6) >>> (p &&& 31)) &&& 1)) (y := 1) (by rw [show ((1 : Int32)).toInt = 1 from by decide]; first | exact b2 | omega)) ?_
  refine ev_go 1 (pc1 := 28) (lv1 := [.ref 63, .ref 23, .int n, .int p, .int q]) (st1 := [.ref 63]) (h1 := (124, I, J, R)) rfl ?_
  refine ev_gf (c := 63) (t := 66) (X := R 63 3) rfl rfl (fun _ => rfl) rfl (hG 63 3 66 rfl rfl) ?_
  refine ev_go 2 (pc1 := 36) (lv1 := [.ref 63, .ref 23, .int n, .int p, .int q]) (st1 := [.int q, .int (I 66 6)]) (h1 := (124, I, J, R)) rfl ?_
  refine ev_go 4 (pc1 := 40) (lv1 := [.ref 63, .ref 23, .int n, .int p, .int q]) (st1 := [.int 1, .int (((I 66 6) >>> (q &&& 31)) &&& 1)]) (h1 := (124, I, J, R)) rfl ?_
  refine ev_br (b1 := false) rfl rfl (xcd_nne (x := (((I 66 6) >>> (q &&& 31)) &&& 1)) (y := 1) (by rw [show ((1 : Int32)).toInt = 1 from by decide]; first | exact b3 | omega)) ?_
  refine ev_go 1 (pc1 := 44) (lv1 := [.ref 63, .ref 23, .int n, .int p, .int q]) (st1 := [.ref 23]) (h1 := (124, I, J, R)) rfl ?_
  refine ev_gf (c := 23) (t := 35) (X := R 23 11) rfl rfl (fun _ => rfl) rfl (hG 23 11 35 rfl rfl) ?_
  refine ev_go 1 (pc1 := 48) (lv1 := [.ref 63, .ref 23, .int n, .int p, .int q]) (st1 := [.int n, .ref 35]) (h1 := (124, I, J, R)) rfl ?_
  refine ev_call (v1 := (some (.int g))) (h1 := (124, I, J, R)) rfl rfl c2 ?_
  refine ev_go 1 (pc1 := 53) (lv1 := [.ref 63, .ref 23, .int n, .int p, .int q]) (st1 := [.int q, .int g]) (h1 := (124, I, J, R)) rfl ?_
  refine ev_go 3 (pc1 := 56) (lv1 := [.ref 63, .ref 23, .int n, .int p, .int q]) (st1 := [.int ((g >>> (q &&& 31)) &&& 1)]) (h1 := (124, I, J, R)) rfl ?_
  refine ev_br (b1 := false) rfl rfl (xcd_nne (x := ((g >>> (q &&& 31)) &&& 1)) (y := 0) (by rw [show ((0 : Int32)).toInt = 0 from by decide]; first | exact b4 | omega)) ?_
  refine ev_go 1 (pc1 := 60) (lv1 := [.ref 63, .ref 23, .int n, .int p, .int q]) (st1 := [.ref 63]) (h1 := (124, I, J, R)) rfl ?_
  refine ev_gf (c := 63) (t := 66) (X := R 63 3) rfl rfl (fun _ => rfl) rfl (hG 63 3 66 rfl rfl) ?_
  refine ev_go 1 (pc1 := 65) (lv1 := [.ref 63, .ref 23, .int n, .int p, .int q]) (st1 := [.int q, .ref 66]) (h1 := (124, I, J, R)) rfl ?_
  refine ev_call (v1 := (some (.int s))) (h1 := (124, I, J, R)) rfl rfl c3 ?_
  refine ev_call (v1 := (some (.int c))) (h1 := (124, I, J, R)) rfl rfl c4 ?_
  refine ev_go 1 (pc1 := 72) (lv1 := [.ref 63, .ref 23, .int n, .int p, .int q]) (st1 := [.ref 23, .int c]) (h1 := (124, I, J, R)) rfl ?_
  refine ev_gf (c := 23) (t := 25) (X := R 23 1) rfl rfl (fun _ => rfl) rfl (hG 23 1 25 rfl rfl) ?_
  refine ev_go 1 (pc1 := 77) (lv1 := [.ref 63, .ref 23, .int n, .int p, .int q]) (st1 := [.int q, .ref 25, .int c]) (h1 := (124, I, J, R)) rfl ?_
  refine ev_call (v1 := (some (.int o))) (h1 := (124, I, J, R)) rfl rfl c5 ?_
  refine ev_br (b1 := true) rfl rfl (xcd_ge (x := c) (y := o) (by first | exact b5 | omega)) ?_
  refine ev_go 1 (pc1 := 88) (lv1 := [.ref 63, .ref 23, .int n, .int p, .int q]) (st1 := [.int 0]) (h1 := (124, I, J, R)) rfl ?_
  exact ev_ret rfl rfl
set_option maxRecDepth 20000 in
theorem um5_23 {L : Nat} {xs : Nat → Int32} {d : Nat} {I : Nat → Nat → Int32} {J : Nat → Nat → Int64} {R : Nat → Nat → Nat} {n p q f g s c o : Int32} (hG : aGd R) (c1 : xEv L xs d 39 0 [.ref 32, .int n] [] (124, I, J, R) (some (.int f)) (124, I, J, R)) (b1 : p.toInt ≠ f.toInt) (b2 : (((I 66 6) >>> (p &&& 31)) &&& 1).toInt = 1) (b3 : (((I 66 6) >>> (q &&& 31)) &&& 1).toInt = 1) (c2 : xEv L xs d 39 0 [.ref 35, .int n] [] (124, I, J, R) (some (.int g)) (124, I, J, R)) (b4 : ((g >>> (q &&& 31)) &&& 1).toInt = 0) (c3 : xEv L xs d 125 0 [.ref 66, .int q, xmk, xmk] [] (124, I, J, R) (some (.int s)) (124, I, J, R)) (c4 : xEv L xs d 90 0 [.int s] [] (124, I, J, R) (some (.int c)) (124, I, J, R)) (c5 : xEv L xs d 39 0 [.ref 25, .int q] [] (124, I, J, R) (some (.int o)) (124, I, J, R)) (b5 : c.toInt < o.toInt) : xEv L xs (d + 1) 127 0 [.ref 63, .ref 23, .int n, .int p, .int q] [] (124, I, J, R) (some (.int 1)) (124, I, J, R) := by
  refine ev_go 2 (pc1 := 2) (lv1 := [.ref 63, .ref 23, .int n, .int p, .int q]) (st1 := [.ref 23, .int p]) (h1 := (124, I, J, R)) rfl ?_
  refine ev_gf (c := 23) (t := 32) (X := R 23 8) rfl rfl (fun _ => rfl) rfl (hG 23 8 32 rfl rfl) ?_
  refine ev_go 1 (pc1 := 6) (lv1 := [.ref 63, .ref 23, .int n, .int p, .int q]) (st1 := [.int n, .ref 32, .int p]) (h1 := (124, I, J, R)) rfl ?_
  refine ev_call (v1 := (some (.int f))) (h1 := (124, I, J, R)) rfl rfl c1 ?_
  refine ev_br (b1 := false) rfl rfl (xcd_neq (x := p) (y := f) (by first | exact b1 | omega)) ?_
  refine ev_go 1 (pc1 := 13) (lv1 := [.ref 63, .ref 23, .int n, .int p, .int q]) (st1 := [.ref 63]) (h1 := (124, I, J, R)) rfl ?_
  refine ev_gf (c := 63) (t := 66) (X := R 63 3) rfl rfl (fun _ => rfl) rfl (hG 63 3 66 rfl rfl) ?_
  refine ev_go 2 (pc1 := 20) (lv1 := [.ref 63, .ref 23, .int n, .int p, .int q]) (st1 := [.int p, .int (I 66 6)]) (h1 := (124, I, J, R)) rfl ?_
  refine ev_go 4 (pc1 := 24) (lv1 := [.ref 63, .ref 23, .int n, .int p, .int q]) (st1 := [.int 1, .int (((I 66 6) >>> (p &&& 31)) &&& 1)]) (h1 := (124, I, J, R)) rfl ?_
  refine ev_br (b1 := false) rfl rfl (xcd_nne (x := (((I 66 6) >>> (p &&& 31)) &&& 1)) (y := 1) (by rw [show ((1 : Int32)).toInt = 1 from by decide]; first | exact b2 | omega)) ?_
  refine ev_go 1 (pc1 := 28) (lv1 := [.ref 63, .ref 23, .int n, .int p, .int q]) (st1 := [.ref 63]) (h1 := (124, I, J, R)) rfl ?_
  refine ev_gf (c := 63) (t := 66) (X := R 63 3) rfl rfl (fun _ => rfl) rfl (hG 63 3 66 rfl rfl) ?_
  refine ev_go 2 (pc1 := 36) (lv1 := [.ref 63, .ref 23, .int n, .int p, .int q]) (st1 := [.int q, .int (I 66 6)]) (h1 := (124, I, J, R)) rfl ?_
  refine ev_go 4 (pc1 := 40) (lv1 := [.ref 63, .ref 23, .int n, .int p, .int q]) (st1 := [.int 1, .int (((I 66 6) >>> (q &&& 31)) &&& 1)]) (h1 := (124, I, J, R)) rfl ?_
  refine ev_br (b1 := false) rfl rfl (xcd_nne (x := (((I 66 6) >>> (q &&& 31)) &&& 1)) (y := 1) (by rw [show ((1 : Int32)).toInt = 1 from by decide]; first | exact b3 | omega)) ?_
  refine ev_go 1 (pc1 := 44) (lv1 := [.ref 63, .ref 23, .int n, .int p, .int q]) (st1 := [.ref 23]) (h1 := (124, I, J, R)) rfl ?_
  refine ev_gf (c := 23) (t := 35) (X := R 23 11) rfl rfl (fun _ => rfl) rfl (hG 23 11 35 rfl rfl) ?_
  refine ev_go 1 (pc1 := 48) (lv1 := [.ref 63, .ref 23, .int n, .int p, .int q]) (st1 := [.int n, .ref 35]) (h1 := (124, I, J, R)) rfl ?_
  refine ev_call (v1 := (some (.int g))) (h1 := (124, I, J, R)) rfl rfl c2 ?_
  refine ev_go 1 (pc1 := 53) (lv1 := [.ref 63, .ref 23, .int n, .int p, .int q]) (st1 := [.int q, .int g]) (h1 := (124, I, J, R)) rfl ?_
  refine ev_go 3 (pc1 := 56) (lv1 := [.ref 63, .ref 23, .int n, .int p, .int q]) (st1 := [.int ((g >>> (q &&& 31)) &&& 1)]) (h1 := (124, I, J, R)) rfl ?_
  refine ev_br (b1 := false) rfl rfl (xcd_nne (x := ((g >>> (q &&& 31)) &&& 1)) (y := 0) (by rw [show ((0 : Int32)).toInt = 0 from by decide]; first | exact b4 | omega)) ?_
  refine ev_go 1 (pc1 := 60) (lv1 := [.ref 63, .ref 23, .int n, .int p, .int q]) (st1 := [.ref 63]) (h1 := (124, I, J, R)) rfl ?_
  refine ev_gf (c := 63) (t := 66) (X := R 63 3) rfl rfl (fun _ => rfl) rfl (hG 63 3 66 rfl rfl) ?_
  refine ev_go 1 (pc1 := 65) (lv1 := [.ref 63, .ref 23, .int n, .int p, .int q]) (st1 := [.int q, .ref 66]) (h1 := (124, I, J, R)) rfl ?_
  refine ev_call (v1 := (some (.int s))) (h1 := (124, I, J, R)) rfl rfl c3 ?_
  refine ev_call (v1 := (some (.int c))) (h1 := (124, I, J, R)) rfl rfl c4 ?_
  refine ev_go 1 (pc1 := 72) (lv1 := [.ref 63, .ref 23, .int n, .int p, .int q]) (st1 := [.ref 23, .int c]) (h1 := (124, I, J, R)) rfl ?_
  refine ev_gf (c := 23) (t := 25) (X := R 23 1) rfl rfl (fun _ => rfl) rfl (hG 23 1 25 rfl rfl) ?_
  refine ev_go 1 (pc1 := 77) (lv1 := [.ref 63, .ref 23, .int n, .int p, .int q]) (st1 := [.int q, .ref 25, .int c]) (h1 := (124, I, J, R)) rfl ?_
  refine ev_call (v1 := (some (.int o))) (h1 := (124, I, J, R)) rfl rfl c5 ?_
  refine ev_br (b1 := false) rfl rfl (xcd_nge (x := c) (y := o) (by first | exact b5 | omega)) ?_
  refine ev_go 2 (pc1 := 88) (lv1 := [.ref 63, .ref 23, .int n, .int p, .int q]) (st1 := [.int 1]) (h1 := (124, I, J, R)) rfl ?_
  exact ev_ret rfl rfl
set_option maxRecDepth 20000 in
theorem uw0_23 {L : Nat} {xs : Nat → Int32} {d : Nat} {I : Nat → Nat → Int32} {J : Nat → Nat → Int64} {R : Nat → Nat → Nat} {n p q br f k : Int32} (hG : aGd R) (c1 : xEv L xs d 39 0 [.ref 35, .int n] [] (124, I, J, R) (some (.int br)) (124, I, J, R)) (c2 : xEv L xs d 39 0 [.ref 32, .int n] [] (124, I, J, R) (some (.int f)) (124, I, J, R)) (c3 : xEv L xs d 39 0 [.ref 64, .int p] [] (124, I, J, R) (some (.int k)) (124, I, J, R)) (b1 : k.toInt < 1 ∨ 5 < k.toInt) : xEv L xs (d + 1) 128 0 [.ref 63, .ref 23, .int n, .int p, .int q, xmk, xmk, xmk, xmk, xmk, xmk] [] (124, I, J, R) (some (.int 0)) (124, I, J, R) := by
  refine ev_go 1 (pc1 := 1) (lv1 := [.ref 63, .ref 23, .int n, .int p, .int q, xmk, xmk, xmk, xmk, xmk, xmk]) (st1 := [.ref 23]) (h1 := (124, I, J, R)) rfl ?_
  refine ev_gf (c := 23) (t := 37) (X := R 23 13) rfl rfl (fun _ => rfl) rfl (hG 23 13 37 rfl rfl) ?_
  refine ev_go 2 (pc1 := 7) (lv1 := [.ref 63, .ref 23, .int n, .int p, .int q, .ref 37, xmk, xmk, xmk, xmk, xmk]) (st1 := [.ref 23]) (h1 := (124, I, J, R)) rfl ?_
  refine ev_gf (c := 23) (t := 35) (X := R 23 11) rfl rfl (fun _ => rfl) rfl (hG 23 11 35 rfl rfl) ?_
  refine ev_go 1 (pc1 := 11) (lv1 := [.ref 63, .ref 23, .int n, .int p, .int q, .ref 37, xmk, xmk, xmk, xmk, xmk]) (st1 := [.int n, .ref 35]) (h1 := (124, I, J, R)) rfl ?_
  refine ev_call (v1 := (some (.int br))) (h1 := (124, I, J, R)) rfl rfl c1 ?_
  refine ev_go 2 (pc1 := 17) (lv1 := [.ref 63, .ref 23, .int n, .int p, .int q, .ref 37, .int br, xmk, xmk, xmk, xmk]) (st1 := [.ref 23]) (h1 := (124, I, J, R)) rfl ?_
  refine ev_gf (c := 23) (t := 32) (X := R 23 8) rfl rfl (fun _ => rfl) rfl (hG 23 8 32 rfl rfl) ?_
  refine ev_go 1 (pc1 := 21) (lv1 := [.ref 63, .ref 23, .int n, .int p, .int q, .ref 37, .int br, xmk, xmk, xmk, xmk]) (st1 := [.int n, .ref 32]) (h1 := (124, I, J, R)) rfl ?_
  refine ev_call (v1 := (some (.int f))) (h1 := (124, I, J, R)) rfl rfl c2 ?_
  refine ev_go 2 (pc1 := 27) (lv1 := [.ref 63, .ref 23, .int n, .int p, .int q, .ref 37, .int br, .int f, xmk, xmk, xmk]) (st1 := [.ref 63]) (h1 := (124, I, J, R)) rfl ?_
  refine ev_gf (c := 63) (t := 66) (X := R 63 3) rfl rfl (fun _ => rfl) rfl (hG 63 3 66 rfl rfl) ?_
  refine ev_go 5 (pc1 := 38) (lv1 := [.ref 63, .ref 23, .int n, .int p, .int q, .ref 37, .int br, .int f, .int ((I 66 5) + 1), xmk, xmk]) (st1 := [.ref 63]) (h1 := (124, I, J, R)) rfl ?_
  refine ev_gf (c := 63) (t := 64) (X := R 63 0) rfl rfl (fun _ => rfl) rfl (hG 63 0 64 rfl rfl) ?_
  refine ev_go 1 (pc1 := 42) (lv1 := [.ref 63, .ref 23, .int n, .int p, .int q, .ref 37, .int br, .int f, .int ((I 66 5) + 1), xmk, xmk]) (st1 := [.int p, .ref 64]) (h1 := (124, I, J, R)) rfl ?_
  refine ev_call (v1 := (some (.int k))) (h1 := (124, I, J, R)) rfl rfl c3 ?_
  refine ev_tab (x := k) (t := 233) rfl rfl b1 rfl ?_
  refine ev_go 1 (pc1 := 234) (lv1 := [.ref 63, .ref 23, .int n, .int p, .int q, .ref 37, .int br, .int f, .int ((I 66 5) + 1), xmk, xmk]) (st1 := [.int 0]) (h1 := (124, I, J, R)) rfl ?_
  exact ev_ret rfl rfl
set_option maxRecDepth 20000 in
theorem uw1n_23 {L : Nat} {xs : Nat → Int32} {d : Nat} {I : Nat → Nat → Int32} {J : Nat → Nat → Int64} {R : Nat → Nat → Nat} {n p q br f k m : Int32} (hG : aGd R) (c1 : xEv L xs d 39 0 [.ref 35, .int n] [] (124, I, J, R) (some (.int br)) (124, I, J, R)) (c2 : xEv L xs d 39 0 [.ref 32, .int n] [] (124, I, J, R) (some (.int f)) (124, I, J, R)) (c3 : xEv L xs d 39 0 [.ref 64, .int p] [] (124, I, J, R) (some (.int k)) (124, I, J, R)) (b1 : k.toInt = 1) (c4 : xEv L xs d 39 0 [.ref 65, .int p] [] (124, I, J, R) (some (.int m)) (124, I, J, R)) (b2 : q.toInt ≠ m.toInt) : xEv L xs (d + 1) 128 0 [.ref 63, .ref 23, .int n, .int p, .int q, xmk, xmk, xmk, xmk, xmk, xmk] [] (124, I, J, R) (some (.int 0)) (124, I, J, R) := by
  refine ev_go 1 (pc1 := 1) (lv1 := [.ref 63, .ref 23, .int n, .int p, .int q, xmk, xmk, xmk, xmk, xmk, xmk]) (st1 := [.ref 23]) (h1 := (124, I, J, R)) rfl ?_
  refine ev_gf (c := 23) (t := 37) (X := R 23 13) rfl rfl (fun _ => rfl) rfl (hG 23 13 37 rfl rfl) ?_
  refine ev_go 2 (pc1 := 7) (lv1 := [.ref 63, .ref 23, .int n, .int p, .int q, .ref 37, xmk, xmk, xmk, xmk, xmk]) (st1 := [.ref 23]) (h1 := (124, I, J, R)) rfl ?_
  refine ev_gf (c := 23) (t := 35) (X := R 23 11) rfl rfl (fun _ => rfl) rfl (hG 23 11 35 rfl rfl) ?_
  refine ev_go 1 (pc1 := 11) (lv1 := [.ref 63, .ref 23, .int n, .int p, .int q, .ref 37, xmk, xmk, xmk, xmk, xmk]) (st1 := [.int n, .ref 35]) (h1 := (124, I, J, R)) rfl ?_
  refine ev_call (v1 := (some (.int br))) (h1 := (124, I, J, R)) rfl rfl c1 ?_
  refine ev_go 2 (pc1 := 17) (lv1 := [.ref 63, .ref 23, .int n, .int p, .int q, .ref 37, .int br, xmk, xmk, xmk, xmk]) (st1 := [.ref 23]) (h1 := (124, I, J, R)) rfl ?_
  refine ev_gf (c := 23) (t := 32) (X := R 23 8) rfl rfl (fun _ => rfl) rfl (hG 23 8 32 rfl rfl) ?_
  refine ev_go 1 (pc1 := 21) (lv1 := [.ref 63, .ref 23, .int n, .int p, .int q, .ref 37, .int br, xmk, xmk, xmk, xmk]) (st1 := [.int n, .ref 32]) (h1 := (124, I, J, R)) rfl ?_
  refine ev_call (v1 := (some (.int f))) (h1 := (124, I, J, R)) rfl rfl c2 ?_
  refine ev_go 2 (pc1 := 27) (lv1 := [.ref 63, .ref 23, .int n, .int p, .int q, .ref 37, .int br, .int f, xmk, xmk, xmk]) (st1 := [.ref 63]) (h1 := (124, I, J, R)) rfl ?_
  refine ev_gf (c := 63) (t := 66) (X := R 63 3) rfl rfl (fun _ => rfl) rfl (hG 63 3 66 rfl rfl) ?_
  refine ev_go 5 (pc1 := 38) (lv1 := [.ref 63, .ref 23, .int n, .int p, .int q, .ref 37, .int br, .int f, .int ((I 66 5) + 1), xmk, xmk]) (st1 := [.ref 63]) (h1 := (124, I, J, R)) rfl ?_
  refine ev_gf (c := 63) (t := 64) (X := R 63 0) rfl rfl (fun _ => rfl) rfl (hG 63 0 64 rfl rfl) ?_
  refine ev_go 1 (pc1 := 42) (lv1 := [.ref 63, .ref 23, .int n, .int p, .int q, .ref 37, .int br, .int f, .int ((I 66 5) + 1), xmk, xmk]) (st1 := [.int p, .ref 64]) (h1 := (124, I, J, R)) rfl ?_
  refine ev_call (v1 := (some (.int k))) (h1 := (124, I, J, R)) rfl rfl c3 ?_
  refine ev_tk (x := k) (z := 1) (t := 80) rfl rfl b1 (by decide) rfl rfl ?_
  refine ev_go 2 (pc1 := 83) (lv1 := [.ref 63, .ref 23, .int n, .int p, .int q, .ref 37, .int br, .int f, .int ((I 66 5) + 1), xmk, xmk]) (st1 := [.ref 63, .int q]) (h1 := (124, I, J, R)) rfl ?_
  refine ev_gf (c := 63) (t := 65) (X := R 63 1) rfl rfl (fun _ => rfl) rfl (hG 63 1 65 rfl rfl) ?_
  refine ev_go 1 (pc1 := 87) (lv1 := [.ref 63, .ref 23, .int n, .int p, .int q, .ref 37, .int br, .int f, .int ((I 66 5) + 1), xmk, xmk]) (st1 := [.int p, .ref 65, .int q]) (h1 := (124, I, J, R)) rfl ?_
  refine ev_call (v1 := (some (.int m))) (h1 := (124, I, J, R)) rfl rfl c4 ?_
  refine ev_br (b1 := true) rfl rfl (xcd_ne (x := q) (y := m) (by first | exact b2 | omega)) ?_
  refine ev_go 1 (pc1 := 98) (lv1 := [.ref 63, .ref 23, .int n, .int p, .int q, .ref 37, .int br, .int f, .int ((I 66 5) + 1), xmk, xmk]) (st1 := [.int 0]) (h1 := (124, I, J, R)) rfl ?_
  exact ev_ret rfl rfl
set_option maxRecDepth 20000 in
theorem uw1y_23 {L : Nat} {xs : Nat → Int32} {d : Nat} {I : Nat → Nat → Int32} {J : Nat → Nat → Int64} {R : Nat → Nat → Nat} {n p q br f k m : Int32} (hG : aGd R) (c1 : xEv L xs d 39 0 [.ref 35, .int n] [] (124, I, J, R) (some (.int br)) (124, I, J, R)) (c2 : xEv L xs d 39 0 [.ref 32, .int n] [] (124, I, J, R) (some (.int f)) (124, I, J, R)) (c3 : xEv L xs d 39 0 [.ref 64, .int p] [] (124, I, J, R) (some (.int k)) (124, I, J, R)) (b1 : k.toInt = 1) (c4 : xEv L xs d 39 0 [.ref 65, .int p] [] (124, I, J, R) (some (.int m)) (124, I, J, R)) (b2 : q.toInt = m.toInt) : xEv L xs (d + 1) 128 0 [.ref 63, .ref 23, .int n, .int p, .int q, xmk, xmk, xmk, xmk, xmk, xmk] [] (124, I, J, R) (some (.int 1)) (124, I, J, R) := by
  refine ev_go 1 (pc1 := 1) (lv1 := [.ref 63, .ref 23, .int n, .int p, .int q, xmk, xmk, xmk, xmk, xmk, xmk]) (st1 := [.ref 23]) (h1 := (124, I, J, R)) rfl ?_
  refine ev_gf (c := 23) (t := 37) (X := R 23 13) rfl rfl (fun _ => rfl) rfl (hG 23 13 37 rfl rfl) ?_
  refine ev_go 2 (pc1 := 7) (lv1 := [.ref 63, .ref 23, .int n, .int p, .int q, .ref 37, xmk, xmk, xmk, xmk, xmk]) (st1 := [.ref 23]) (h1 := (124, I, J, R)) rfl ?_
  refine ev_gf (c := 23) (t := 35) (X := R 23 11) rfl rfl (fun _ => rfl) rfl (hG 23 11 35 rfl rfl) ?_
  refine ev_go 1 (pc1 := 11) (lv1 := [.ref 63, .ref 23, .int n, .int p, .int q, .ref 37, xmk, xmk, xmk, xmk, xmk]) (st1 := [.int n, .ref 35]) (h1 := (124, I, J, R)) rfl ?_
  refine ev_call (v1 := (some (.int br))) (h1 := (124, I, J, R)) rfl rfl c1 ?_
  refine ev_go 2 (pc1 := 17) (lv1 := [.ref 63, .ref 23, .int n, .int p, .int q, .ref 37, .int br, xmk, xmk, xmk, xmk]) (st1 := [.ref 23]) (h1 := (124, I, J, R)) rfl ?_
  refine ev_gf (c := 23) (t := 32) (X := R 23 8) rfl rfl (fun _ => rfl) rfl (hG 23 8 32 rfl rfl) ?_
  refine ev_go 1 (pc1 := 21) (lv1 := [.ref 63, .ref 23, .int n, .int p, .int q, .ref 37, .int br, xmk, xmk, xmk, xmk]) (st1 := [.int n, .ref 32]) (h1 := (124, I, J, R)) rfl ?_
  refine ev_call (v1 := (some (.int f))) (h1 := (124, I, J, R)) rfl rfl c2 ?_
  refine ev_go 2 (pc1 := 27) (lv1 := [.ref 63, .ref 23, .int n, .int p, .int q, .ref 37, .int br, .int f, xmk, xmk, xmk]) (st1 := [.ref 63]) (h1 := (124, I, J, R)) rfl ?_
  refine ev_gf (c := 63) (t := 66) (X := R 63 3) rfl rfl (fun _ => rfl) rfl (hG 63 3 66 rfl rfl) ?_
  refine ev_go 5 (pc1 := 38) (lv1 := [.ref 63, .ref 23, .int n, .int p, .int q, .ref 37, .int br, .int f, .int ((I 66 5) + 1), xmk, xmk]) (st1 := [.ref 63]) (h1 := (124, I, J, R)) rfl ?_
  refine ev_gf (c := 63) (t := 64) (X := R 63 0) rfl rfl (fun _ => rfl) rfl (hG 63 0 64 rfl rfl) ?_
  refine ev_go 1 (pc1 := 42) (lv1 := [.ref 63, .ref 23, .int n, .int p, .int q, .ref 37, .int br, .int f, .int ((I 66 5) + 1), xmk, xmk]) (st1 := [.int p, .ref 64]) (h1 := (124, I, J, R)) rfl ?_
  refine ev_call (v1 := (some (.int k))) (h1 := (124, I, J, R)) rfl rfl c3 ?_
  refine ev_tk (x := k) (z := 1) (t := 80) rfl rfl b1 (by decide) rfl rfl ?_
  refine ev_go 2 (pc1 := 83) (lv1 := [.ref 63, .ref 23, .int n, .int p, .int q, .ref 37, .int br, .int f, .int ((I 66 5) + 1), xmk, xmk]) (st1 := [.ref 63, .int q]) (h1 := (124, I, J, R)) rfl ?_
  refine ev_gf (c := 63) (t := 65) (X := R 63 1) rfl rfl (fun _ => rfl) rfl (hG 63 1 65 rfl rfl) ?_
  refine ev_go 1 (pc1 := 87) (lv1 := [.ref 63, .ref 23, .int n, .int p, .int q, .ref 37, .int br, .int f, .int ((I 66 5) + 1), xmk, xmk]) (st1 := [.int p, .ref 65, .int q]) (h1 := (124, I, J, R)) rfl ?_
  refine ev_call (v1 := (some (.int m))) (h1 := (124, I, J, R)) rfl rfl c4 ?_
  refine ev_br (b1 := false) rfl rfl (xcd_nne (x := q) (y := m) (by first | exact b2 | omega)) ?_
  refine ev_go 2 (pc1 := 98) (lv1 := [.ref 63, .ref 23, .int n, .int p, .int q, .ref 37, .int br, .int f, .int ((I 66 5) + 1), xmk, xmk]) (st1 := [.int 1]) (h1 := (124, I, J, R)) rfl ?_
  exact ev_ret rfl rfl
set_option maxRecDepth 20000 in
theorem uw2a_23 {L : Nat} {xs : Nat → Int32} {d : Nat} {I : Nat → Nat → Int32} {J : Nat → Nat → Int64} {R : Nat → Nat → Nat} {n p q br f k x y : Int32} (hG : aGd R) (c1 : xEv L xs d 39 0 [.ref 35, .int n] [] (124, I, J, R) (some (.int br)) (124, I, J, R)) (c2 : xEv L xs d 39 0 [.ref 32, .int n] [] (124, I, J, R) (some (.int f)) (124, I, J, R)) (c3 : xEv L xs d 39 0 [.ref 64, .int p] [] (124, I, J, R) (some (.int k)) (124, I, J, R)) (b1 : k.toInt = 2) (c4 : xEv L xs d 66 0 [.ref 37, .int br, .int q, .int f, .int ((I 66 5) + 1), xmk, xmk, xmk] [] (124, I, J, R) (some (.int x)) (124, I, J, R)) (c5 : xEv L xs d 66 0 [.ref 37, .int br, .int p, .int f, .int ((I 66 5) + 1), xmk, xmk, xmk] [] (124, I, J, R) (some (.int y)) (124, I, J, R)) (b2 : q.toInt = f.toInt) : xEv L xs (d + 1) 128 0 [.ref 63, .ref 23, .int n, .int p, .int q, xmk, xmk, xmk, xmk, xmk, xmk] [] (124, I, J, R) (some (.int 1)) (124, I, J, R) := by
  refine ev_go 1 (pc1 := 1) (lv1 := [.ref 63, .ref 23, .int n, .int p, .int q, xmk, xmk, xmk, xmk, xmk, xmk]) (st1 := [.ref 23]) (h1 := (124, I, J, R)) rfl ?_
  refine ev_gf (c := 23) (t := 37) (X := R 23 13) rfl rfl (fun _ => rfl) rfl (hG 23 13 37 rfl rfl) ?_
  refine ev_go 2 (pc1 := 7) (lv1 := [.ref 63, .ref 23, .int n, .int p, .int q, .ref 37, xmk, xmk, xmk, xmk, xmk]) (st1 := [.ref 23]) (h1 := (124, I, J, R)) rfl ?_
  refine ev_gf (c := 23) (t := 35) (X := R 23 11) rfl rfl (fun _ => rfl) rfl (hG 23 11 35 rfl rfl) ?_
  refine ev_go 1 (pc1 := 11) (lv1 := [.ref 63, .ref 23, .int n, .int p, .int q, .ref 37, xmk, xmk, xmk, xmk, xmk]) (st1 := [.int n, .ref 35]) (h1 := (124, I, J, R)) rfl ?_
  refine ev_call (v1 := (some (.int br))) (h1 := (124, I, J, R)) rfl rfl c1 ?_
  refine ev_go 2 (pc1 := 17) (lv1 := [.ref 63, .ref 23, .int n, .int p, .int q, .ref 37, .int br, xmk, xmk, xmk, xmk]) (st1 := [.ref 23]) (h1 := (124, I, J, R)) rfl ?_
  refine ev_gf (c := 23) (t := 32) (X := R 23 8) rfl rfl (fun _ => rfl) rfl (hG 23 8 32 rfl rfl) ?_
  refine ev_go 1 (pc1 := 21) (lv1 := [.ref 63, .ref 23, .int n, .int p, .int q, .ref 37, .int br, xmk, xmk, xmk, xmk]) (st1 := [.int n, .ref 32]) (h1 := (124, I, J, R)) rfl ?_
  refine ev_call (v1 := (some (.int f))) (h1 := (124, I, J, R)) rfl rfl c2 ?_
  refine ev_go 2 (pc1 := 27) (lv1 := [.ref 63, .ref 23, .int n, .int p, .int q, .ref 37, .int br, .int f, xmk, xmk, xmk]) (st1 := [.ref 63]) (h1 := (124, I, J, R)) rfl ?_
  refine ev_gf (c := 63) (t := 66) (X := R 63 3) rfl rfl (fun _ => rfl) rfl (hG 63 3 66 rfl rfl) ?_
  refine ev_go 5 (pc1 := 38) (lv1 := [.ref 63, .ref 23, .int n, .int p, .int q, .ref 37, .int br, .int f, .int ((I 66 5) + 1), xmk, xmk]) (st1 := [.ref 63]) (h1 := (124, I, J, R)) rfl ?_
  refine ev_gf (c := 63) (t := 64) (X := R 63 0) rfl rfl (fun _ => rfl) rfl (hG 63 0 64 rfl rfl) ?_
  refine ev_go 1 (pc1 := 42) (lv1 := [.ref 63, .ref 23, .int n, .int p, .int q, .ref 37, .int br, .int f, .int ((I 66 5) + 1), xmk, xmk]) (st1 := [.int p, .ref 64]) (h1 := (124, I, J, R)) rfl ?_
  refine ev_call (v1 := (some (.int k))) (h1 := (124, I, J, R)) rfl rfl c3 ?_
  refine ev_tk (x := k) (z := 2) (t := 99) rfl rfl b1 (by decide) rfl rfl ?_
  refine ev_go 5 (pc1 := 109) (lv1 := [.ref 63, .ref 23, .int n, .int p, .int q, .ref 37, .int br, .int f, .int ((I 66 5) + 1), xmk, xmk]) (st1 := [.int ((I 66 5) + 1), .int f, .int q, .int br, .ref 37]) (h1 := (124, I, J, R)) rfl ?_
  refine ev_call (v1 := (some (.int x))) (h1 := (124, I, J, R)) rfl rfl c4 ?_
  refine ev_go 6 (pc1 := 123) (lv1 := [.ref 63, .ref 23, .int n, .int p, .int q, .ref 37, .int br, .int f, .int ((I 66 5) + 1), .int x, xmk]) (st1 := [.int ((I 66 5) + 1), .int f, .int p, .int br, .ref 37]) (h1 := (124, I, J, R)) rfl ?_
  refine ev_call (v1 := (some (.int y))) (h1 := (124, I, J, R)) rfl rfl c5 ?_
  refine ev_go 3 (pc1 := 132) (lv1 := [.ref 63, .ref 23, .int n, .int p, .int q, .ref 37, .int br, .int f, .int ((I 66 5) + 1), .int x, .int y]) (st1 := [.int f, .int q]) (h1 := (124, I, J, R)) rfl ?_
  refine ev_br (b1 := true) rfl rfl (xcd_eq (x := q) (y := f) (by first | exact b2 | omega)) ?_
  refine ev_go 2 (pc1 := 159) (lv1 := [.ref 63, .ref 23, .int n, .int p, .int q, .ref 37, .int br, .int f, .int ((I 66 5) + 1), .int x, .int y]) (st1 := [.int 1]) (h1 := (124, I, J, R)) rfl ?_
  exact ev_ret rfl rfl
set_option maxRecDepth 20000 in
theorem uw2b_23 {L : Nat} {xs : Nat → Int32} {d : Nat} {I : Nat → Nat → Int32} {J : Nat → Nat → Int64} {R : Nat → Nat → Nat} {n p q br f k x y : Int32} (hG : aGd R) (c1 : xEv L xs d 39 0 [.ref 35, .int n] [] (124, I, J, R) (some (.int br)) (124, I, J, R)) (c2 : xEv L xs d 39 0 [.ref 32, .int n] [] (124, I, J, R) (some (.int f)) (124, I, J, R)) (c3 : xEv L xs d 39 0 [.ref 64, .int p] [] (124, I, J, R) (some (.int k)) (124, I, J, R)) (b1 : k.toInt = 2) (c4 : xEv L xs d 66 0 [.ref 37, .int br, .int q, .int f, .int ((I 66 5) + 1), xmk, xmk, xmk] [] (124, I, J, R) (some (.int x)) (124, I, J, R)) (c5 : xEv L xs d 66 0 [.ref 37, .int br, .int p, .int f, .int ((I 66 5) + 1), xmk, xmk, xmk] [] (124, I, J, R) (some (.int y)) (124, I, J, R)) (b2 : q.toInt ≠ f.toInt) (b3 : x.toInt = -1) : xEv L xs (d + 1) 128 0 [.ref 63, .ref 23, .int n, .int p, .int q, xmk, xmk, xmk, xmk, xmk, xmk] [] (124, I, J, R) (some (.int 0)) (124, I, J, R) := by
  refine ev_go 1 (pc1 := 1) (lv1 := [.ref 63, .ref 23, .int n, .int p, .int q, xmk, xmk, xmk, xmk, xmk, xmk]) (st1 := [.ref 23]) (h1 := (124, I, J, R)) rfl ?_
  refine ev_gf (c := 23) (t := 37) (X := R 23 13) rfl rfl (fun _ => rfl) rfl (hG 23 13 37 rfl rfl) ?_
  refine ev_go 2 (pc1 := 7) (lv1 := [.ref 63, .ref 23, .int n, .int p, .int q, .ref 37, xmk, xmk, xmk, xmk, xmk]) (st1 := [.ref 23]) (h1 := (124, I, J, R)) rfl ?_
  refine ev_gf (c := 23) (t := 35) (X := R 23 11) rfl rfl (fun _ => rfl) rfl (hG 23 11 35 rfl rfl) ?_
  refine ev_go 1 (pc1 := 11) (lv1 := [.ref 63, .ref 23, .int n, .int p, .int q, .ref 37, xmk, xmk, xmk, xmk, xmk]) (st1 := [.int n, .ref 35]) (h1 := (124, I, J, R)) rfl ?_
  refine ev_call (v1 := (some (.int br))) (h1 := (124, I, J, R)) rfl rfl c1 ?_
  refine ev_go 2 (pc1 := 17) (lv1 := [.ref 63, .ref 23, .int n, .int p, .int q, .ref 37, .int br, xmk, xmk, xmk, xmk]) (st1 := [.ref 23]) (h1 := (124, I, J, R)) rfl ?_
  refine ev_gf (c := 23) (t := 32) (X := R 23 8) rfl rfl (fun _ => rfl) rfl (hG 23 8 32 rfl rfl) ?_
  refine ev_go 1 (pc1 := 21) (lv1 := [.ref 63, .ref 23, .int n, .int p, .int q, .ref 37, .int br, xmk, xmk, xmk, xmk]) (st1 := [.int n, .ref 32]) (h1 := (124, I, J, R)) rfl ?_
  refine ev_call (v1 := (some (.int f))) (h1 := (124, I, J, R)) rfl rfl c2 ?_
  refine ev_go 2 (pc1 := 27) (lv1 := [.ref 63, .ref 23, .int n, .int p, .int q, .ref 37, .int br, .int f, xmk, xmk, xmk]) (st1 := [.ref 63]) (h1 := (124, I, J, R)) rfl ?_
  refine ev_gf (c := 63) (t := 66) (X := R 63 3) rfl rfl (fun _ => rfl) rfl (hG 63 3 66 rfl rfl) ?_
  refine ev_go 5 (pc1 := 38) (lv1 := [.ref 63, .ref 23, .int n, .int p, .int q, .ref 37, .int br, .int f, .int ((I 66 5) + 1), xmk, xmk]) (st1 := [.ref 63]) (h1 := (124, I, J, R)) rfl ?_
  refine ev_gf (c := 63) (t := 64) (X := R 63 0) rfl rfl (fun _ => rfl) rfl (hG 63 0 64 rfl rfl) ?_
  refine ev_go 1 (pc1 := 42) (lv1 := [.ref 63, .ref 23, .int n, .int p, .int q, .ref 37, .int br, .int f, .int ((I 66 5) + 1), xmk, xmk]) (st1 := [.int p, .ref 64]) (h1 := (124, I, J, R)) rfl ?_
  refine ev_call (v1 := (some (.int k))) (h1 := (124, I, J, R)) rfl rfl c3 ?_
  refine ev_tk (x := k) (z := 2) (t := 99) rfl rfl b1 (by decide) rfl rfl ?_
  refine ev_go 5 (pc1 := 109) (lv1 := [.ref 63, .ref 23, .int n, .int p, .int q, .ref 37, .int br, .int f, .int ((I 66 5) + 1), xmk, xmk]) (st1 := [.int ((I 66 5) + 1), .int f, .int q, .int br, .ref 37]) (h1 := (124, I, J, R)) rfl ?_
  refine ev_call (v1 := (some (.int x))) (h1 := (124, I, J, R)) rfl rfl c4 ?_
  refine ev_go 6 (pc1 := 123) (lv1 := [.ref 63, .ref 23, .int n, .int p, .int q, .ref 37, .int br, .int f, .int ((I 66 5) + 1), .int x, xmk]) (st1 := [.int ((I 66 5) + 1), .int f, .int p, .int br, .ref 37]) (h1 := (124, I, J, R)) rfl ?_
  refine ev_call (v1 := (some (.int y))) (h1 := (124, I, J, R)) rfl rfl c5 ?_
  refine ev_go 3 (pc1 := 132) (lv1 := [.ref 63, .ref 23, .int n, .int p, .int q, .ref 37, .int br, .int f, .int ((I 66 5) + 1), .int x, .int y]) (st1 := [.int f, .int q]) (h1 := (124, I, J, R)) rfl ?_
  refine ev_br (b1 := false) rfl rfl (xcd_neq (x := q) (y := f) (by first | exact b2 | omega)) ?_
  refine ev_go 2 (pc1 := 138) (lv1 := [.ref 63, .ref 23, .int n, .int p, .int q, .ref 37, .int br, .int f, .int ((I 66 5) + 1), .int x, .int y]) (st1 := [.int (-1), .int x]) (h1 := (124, I, J, R)) rfl ?_
  refine ev_br (b1 := true) rfl rfl (xcd_eq (x := x) (y := (-1)) (by rw [show ((-1 : Int32)).toInt = -1 from by decide]; first | exact b3 | omega)) ?_
  refine ev_go 1 (pc1 := 159) (lv1 := [.ref 63, .ref 23, .int n, .int p, .int q, .ref 37, .int br, .int f, .int ((I 66 5) + 1), .int x, .int y]) (st1 := [.int 0]) (h1 := (124, I, J, R)) rfl ?_
  exact ev_ret rfl rfl
set_option maxRecDepth 20000 in
theorem uw2c_23 {L : Nat} {xs : Nat → Int32} {d : Nat} {I : Nat → Nat → Int32} {J : Nat → Nat → Int64} {R : Nat → Nat → Nat} {n p q br f k x y : Int32} (hG : aGd R) (c1 : xEv L xs d 39 0 [.ref 35, .int n] [] (124, I, J, R) (some (.int br)) (124, I, J, R)) (c2 : xEv L xs d 39 0 [.ref 32, .int n] [] (124, I, J, R) (some (.int f)) (124, I, J, R)) (c3 : xEv L xs d 39 0 [.ref 64, .int p] [] (124, I, J, R) (some (.int k)) (124, I, J, R)) (b1 : k.toInt = 2) (c4 : xEv L xs d 66 0 [.ref 37, .int br, .int q, .int f, .int ((I 66 5) + 1), xmk, xmk, xmk] [] (124, I, J, R) (some (.int x)) (124, I, J, R)) (c5 : xEv L xs d 66 0 [.ref 37, .int br, .int p, .int f, .int ((I 66 5) + 1), xmk, xmk, xmk] [] (124, I, J, R) (some (.int y)) (124, I, J, R)) (b2 : q.toInt ≠ f.toInt) (b3 : x.toInt ≠ -1) (b4 : y.toInt = -1) : xEv L xs (d + 1) 128 0 [.ref 63, .ref 23, .int n, .int p, .int q, xmk, xmk, xmk, xmk, xmk, xmk] [] (124, I, J, R) (some (.int 1)) (124, I, J, R) := by
  refine ev_go 1 (pc1 := 1) (lv1 := [.ref 63, .ref 23, .int n, .int p, .int q, xmk, xmk, xmk, xmk, xmk, xmk]) (st1 := [.ref 23]) (h1 := (124, I, J, R)) rfl ?_
  refine ev_gf (c := 23) (t := 37) (X := R 23 13) rfl rfl (fun _ => rfl) rfl (hG 23 13 37 rfl rfl) ?_
  refine ev_go 2 (pc1 := 7) (lv1 := [.ref 63, .ref 23, .int n, .int p, .int q, .ref 37, xmk, xmk, xmk, xmk, xmk]) (st1 := [.ref 23]) (h1 := (124, I, J, R)) rfl ?_
  refine ev_gf (c := 23) (t := 35) (X := R 23 11) rfl rfl (fun _ => rfl) rfl (hG 23 11 35 rfl rfl) ?_
  refine ev_go 1 (pc1 := 11) (lv1 := [.ref 63, .ref 23, .int n, .int p, .int q, .ref 37, xmk, xmk, xmk, xmk, xmk]) (st1 := [.int n, .ref 35]) (h1 := (124, I, J, R)) rfl ?_
  refine ev_call (v1 := (some (.int br))) (h1 := (124, I, J, R)) rfl rfl c1 ?_
  refine ev_go 2 (pc1 := 17) (lv1 := [.ref 63, .ref 23, .int n, .int p, .int q, .ref 37, .int br, xmk, xmk, xmk, xmk]) (st1 := [.ref 23]) (h1 := (124, I, J, R)) rfl ?_
  refine ev_gf (c := 23) (t := 32) (X := R 23 8) rfl rfl (fun _ => rfl) rfl (hG 23 8 32 rfl rfl) ?_
  refine ev_go 1 (pc1 := 21) (lv1 := [.ref 63, .ref 23, .int n, .int p, .int q, .ref 37, .int br, xmk, xmk, xmk, xmk]) (st1 := [.int n, .ref 32]) (h1 := (124, I, J, R)) rfl ?_
  refine ev_call (v1 := (some (.int f))) (h1 := (124, I, J, R)) rfl rfl c2 ?_
  refine ev_go 2 (pc1 := 27) (lv1 := [.ref 63, .ref 23, .int n, .int p, .int q, .ref 37, .int br, .int f, xmk, xmk, xmk]) (st1 := [.ref 63]) (h1 := (124, I, J, R)) rfl ?_
  refine ev_gf (c := 63) (t := 66) (X := R 63 3) rfl rfl (fun _ => rfl) rfl (hG 63 3 66 rfl rfl) ?_
  refine ev_go 5 (pc1 := 38) (lv1 := [.ref 63, .ref 23, .int n, .int p, .int q, .ref 37, .int br, .int f, .int ((I 66 5) + 1), xmk, xmk]) (st1 := [.ref 63]) (h1 := (124, I, J, R)) rfl ?_
  refine ev_gf (c := 63) (t := 64) (X := R 63 0) rfl rfl (fun _ => rfl) rfl (hG 63 0 64 rfl rfl) ?_
  refine ev_go 1 (pc1 := 42) (lv1 := [.ref 63, .ref 23, .int n, .int p, .int q, .ref 37, .int br, .int f, .int ((I 66 5) + 1), xmk, xmk]) (st1 := [.int p, .ref 64]) (h1 := (124, I, J, R)) rfl ?_
  refine ev_call (v1 := (some (.int k))) (h1 := (124, I, J, R)) rfl rfl c3 ?_
  refine ev_tk (x := k) (z := 2) (t := 99) rfl rfl b1 (by decide) rfl rfl ?_
  refine ev_go 5 (pc1 := 109) (lv1 := [.ref 63, .ref 23, .int n, .int p, .int q, .ref 37, .int br, .int f, .int ((I 66 5) + 1), xmk, xmk]) (st1 := [.int ((I 66 5) + 1), .int f, .int q, .int br, .ref 37]) (h1 := (124, I, J, R)) rfl ?_
  refine ev_call (v1 := (some (.int x))) (h1 := (124, I, J, R)) rfl rfl c4 ?_
  refine ev_go 6 (pc1 := 123) (lv1 := [.ref 63, .ref 23, .int n, .int p, .int q, .ref 37, .int br, .int f, .int ((I 66 5) + 1), .int x, xmk]) (st1 := [.int ((I 66 5) + 1), .int f, .int p, .int br, .ref 37]) (h1 := (124, I, J, R)) rfl ?_
  refine ev_call (v1 := (some (.int y))) (h1 := (124, I, J, R)) rfl rfl c5 ?_
  refine ev_go 3 (pc1 := 132) (lv1 := [.ref 63, .ref 23, .int n, .int p, .int q, .ref 37, .int br, .int f, .int ((I 66 5) + 1), .int x, .int y]) (st1 := [.int f, .int q]) (h1 := (124, I, J, R)) rfl ?_
  refine ev_br (b1 := false) rfl rfl (xcd_neq (x := q) (y := f) (by first | exact b2 | omega)) ?_
  refine ev_go 2 (pc1 := 138) (lv1 := [.ref 63, .ref 23, .int n, .int p, .int q, .ref 37, .int br, .int f, .int ((I 66 5) + 1), .int x, .int y]) (st1 := [.int (-1), .int x]) (h1 := (124, I, J, R)) rfl ?_
  refine ev_br (b1 := false) rfl rfl (xcd_neq (x := x) (y := (-1)) (by rw [show ((-1 : Int32)).toInt = -1 from by decide]; first | exact b3 | omega)) ?_
  refine ev_go 2 (pc1 := 144) (lv1 := [.ref 63, .ref 23, .int n, .int p, .int q, .ref 37, .int br, .int f, .int ((I 66 5) + 1), .int x, .int y]) (st1 := [.int (-1), .int y]) (h1 := (124, I, J, R)) rfl ?_
  refine ev_br (b1 := true) rfl rfl (xcd_eq (x := y) (y := (-1)) (by rw [show ((-1 : Int32)).toInt = -1 from by decide]; first | exact b4 | omega)) ?_
  refine ev_go 2 (pc1 := 159) (lv1 := [.ref 63, .ref 23, .int n, .int p, .int q, .ref 37, .int br, .int f, .int ((I 66 5) + 1), .int x, .int y]) (st1 := [.int 1]) (h1 := (124, I, J, R)) rfl ?_
  exact ev_ret rfl rfl
set_option maxRecDepth 20000 in
theorem uw2d_23 {L : Nat} {xs : Nat → Int32} {d : Nat} {I : Nat → Nat → Int32} {J : Nat → Nat → Int64} {R : Nat → Nat → Nat} {n p q br f k x y : Int32} (hG : aGd R) (c1 : xEv L xs d 39 0 [.ref 35, .int n] [] (124, I, J, R) (some (.int br)) (124, I, J, R)) (c2 : xEv L xs d 39 0 [.ref 32, .int n] [] (124, I, J, R) (some (.int f)) (124, I, J, R)) (c3 : xEv L xs d 39 0 [.ref 64, .int p] [] (124, I, J, R) (some (.int k)) (124, I, J, R)) (b1 : k.toInt = 2) (c4 : xEv L xs d 66 0 [.ref 37, .int br, .int q, .int f, .int ((I 66 5) + 1), xmk, xmk, xmk] [] (124, I, J, R) (some (.int x)) (124, I, J, R)) (c5 : xEv L xs d 66 0 [.ref 37, .int br, .int p, .int f, .int ((I 66 5) + 1), xmk, xmk, xmk] [] (124, I, J, R) (some (.int y)) (124, I, J, R)) (b2 : q.toInt ≠ f.toInt) (b3 : x.toInt ≠ -1) (b4 : y.toInt ≠ -1) (b5 : x.toInt ≥ y.toInt) : xEv L xs (d + 1) 128 0 [.ref 63, .ref 23, .int n, .int p, .int q, xmk, xmk, xmk, xmk, xmk, xmk] [] (124, I, J, R) (some (.int 0)) (124, I, J, R) := by
  refine ev_go 1 (pc1 := 1) (lv1 := [.ref 63, .ref 23, .int n, .int p, .int q, xmk, xmk, xmk, xmk, xmk, xmk]) (st1 := [.ref 23]) (h1 := (124, I, J, R)) rfl ?_
  refine ev_gf (c := 23) (t := 37) (X := R 23 13) rfl rfl (fun _ => rfl) rfl (hG 23 13 37 rfl rfl) ?_
  refine ev_go 2 (pc1 := 7) (lv1 := [.ref 63, .ref 23, .int n, .int p, .int q, .ref 37, xmk, xmk, xmk, xmk, xmk]) (st1 := [.ref 23]) (h1 := (124, I, J, R)) rfl ?_
  refine ev_gf (c := 23) (t := 35) (X := R 23 11) rfl rfl (fun _ => rfl) rfl (hG 23 11 35 rfl rfl) ?_
  refine ev_go 1 (pc1 := 11) (lv1 := [.ref 63, .ref 23, .int n, .int p, .int q, .ref 37, xmk, xmk, xmk, xmk, xmk]) (st1 := [.int n, .ref 35]) (h1 := (124, I, J, R)) rfl ?_
  refine ev_call (v1 := (some (.int br))) (h1 := (124, I, J, R)) rfl rfl c1 ?_
  refine ev_go 2 (pc1 := 17) (lv1 := [.ref 63, .ref 23, .int n, .int p, .int q, .ref 37, .int br, xmk, xmk, xmk, xmk]) (st1 := [.ref 23]) (h1 := (124, I, J, R)) rfl ?_
  refine ev_gf (c := 23) (t := 32) (X := R 23 8) rfl rfl (fun _ => rfl) rfl (hG 23 8 32 rfl rfl) ?_
  refine ev_go 1 (pc1 := 21) (lv1 := [.ref 63, .ref 23, .int n, .int p, .int q, .ref 37, .int br, xmk, xmk, xmk, xmk]) (st1 := [.int n, .ref 32]) (h1 := (124, I, J, R)) rfl ?_
  refine ev_call (v1 := (some (.int f))) (h1 := (124, I, J, R)) rfl rfl c2 ?_
  refine ev_go 2 (pc1 := 27) (lv1 := [.ref 63, .ref 23, .int n, .int p, .int q, .ref 37, .int br, .int f, xmk, xmk, xmk]) (st1 := [.ref 63]) (h1 := (124, I, J, R)) rfl ?_
  refine ev_gf (c := 63) (t := 66) (X := R 63 3) rfl rfl (fun _ => rfl) rfl (hG 63 3 66 rfl rfl) ?_
  refine ev_go 5 (pc1 := 38) (lv1 := [.ref 63, .ref 23, .int n, .int p, .int q, .ref 37, .int br, .int f, .int ((I 66 5) + 1), xmk, xmk]) (st1 := [.ref 63]) (h1 := (124, I, J, R)) rfl ?_
  refine ev_gf (c := 63) (t := 64) (X := R 63 0) rfl rfl (fun _ => rfl) rfl (hG 63 0 64 rfl rfl) ?_
  refine ev_go 1 (pc1 := 42) (lv1 := [.ref 63, .ref 23, .int n, .int p, .int q, .ref 37, .int br, .int f, .int ((I 66 5) + 1), xmk, xmk]) (st1 := [.int p, .ref 64]) (h1 := (124, I, J, R)) rfl ?_
  refine ev_call (v1 := (some (.int k))) (h1 := (124, I, J, R)) rfl rfl c3 ?_
  refine ev_tk (x := k) (z := 2) (t := 99) rfl rfl b1 (by decide) rfl rfl ?_
  refine ev_go 5 (pc1 := 109) (lv1 := [.ref 63, .ref 23, .int n, .int p, .int q, .ref 37, .int br, .int f, .int ((I 66 5) + 1), xmk, xmk]) (st1 := [.int ((I 66 5) + 1), .int f, .int q, .int br, .ref 37]) (h1 := (124, I, J, R)) rfl ?_
  refine ev_call (v1 := (some (.int x))) (h1 := (124, I, J, R)) rfl rfl c4 ?_
  refine ev_go 6 (pc1 := 123) (lv1 := [.ref 63, .ref 23, .int n, .int p, .int q, .ref 37, .int br, .int f, .int ((I 66 5) + 1), .int x, xmk]) (st1 := [.int ((I 66 5) + 1), .int f, .int p, .int br, .ref 37]) (h1 := (124, I, J, R)) rfl ?_
  refine ev_call (v1 := (some (.int y))) (h1 := (124, I, J, R)) rfl rfl c5 ?_
  refine ev_go 3 (pc1 := 132) (lv1 := [.ref 63, .ref 23, .int n, .int p, .int q, .ref 37, .int br, .int f, .int ((I 66 5) + 1), .int x, .int y]) (st1 := [.int f, .int q]) (h1 := (124, I, J, R)) rfl ?_
  refine ev_br (b1 := false) rfl rfl (xcd_neq (x := q) (y := f) (by first | exact b2 | omega)) ?_
  refine ev_go 2 (pc1 := 138) (lv1 := [.ref 63, .ref 23, .int n, .int p, .int q, .ref 37, .int br, .int f, .int ((I 66 5) + 1), .int x, .int y]) (st1 := [.int (-1), .int x]) (h1 := (124, I, J, R)) rfl ?_
  refine ev_br (b1 := false) rfl rfl (xcd_neq (x := x) (y := (-1)) (by rw [show ((-1 : Int32)).toInt = -1 from by decide]; first | exact b3 | omega)) ?_
  refine ev_go 2 (pc1 := 144) (lv1 := [.ref 63, .ref 23, .int n, .int p, .int q, .ref 37, .int br, .int f, .int ((I 66 5) + 1), .int x, .int y]) (st1 := [.int (-1), .int y]) (h1 := (124, I, J, R)) rfl ?_
  refine ev_br (b1 := false) rfl rfl (xcd_neq (x := y) (y := (-1)) (by rw [show ((-1 : Int32)).toInt = -1 from by decide]; first | exact b4 | omega)) ?_
  refine ev_go 2 (pc1 := 151) (lv1 := [.ref 63, .ref 23, .int n, .int p, .int q, .ref 37, .int br, .int f, .int ((I 66 5) + 1), .int x, .int y]) (st1 := [.int y, .int x]) (h1 := (124, I, J, R)) rfl ?_
  refine ev_br (b1 := true) rfl rfl (xcd_ge (x := x) (y := y) (by first | exact b5 | omega)) ?_
  refine ev_go 1 (pc1 := 159) (lv1 := [.ref 63, .ref 23, .int n, .int p, .int q, .ref 37, .int br, .int f, .int ((I 66 5) + 1), .int x, .int y]) (st1 := [.int 0]) (h1 := (124, I, J, R)) rfl ?_
  exact ev_ret rfl rfl
set_option maxRecDepth 20000 in
theorem uw2e_23 {L : Nat} {xs : Nat → Int32} {d : Nat} {I : Nat → Nat → Int32} {J : Nat → Nat → Int64} {R : Nat → Nat → Nat} {n p q br f k x y : Int32} (hG : aGd R) (c1 : xEv L xs d 39 0 [.ref 35, .int n] [] (124, I, J, R) (some (.int br)) (124, I, J, R)) (c2 : xEv L xs d 39 0 [.ref 32, .int n] [] (124, I, J, R) (some (.int f)) (124, I, J, R)) (c3 : xEv L xs d 39 0 [.ref 64, .int p] [] (124, I, J, R) (some (.int k)) (124, I, J, R)) (b1 : k.toInt = 2) (c4 : xEv L xs d 66 0 [.ref 37, .int br, .int q, .int f, .int ((I 66 5) + 1), xmk, xmk, xmk] [] (124, I, J, R) (some (.int x)) (124, I, J, R)) (c5 : xEv L xs d 66 0 [.ref 37, .int br, .int p, .int f, .int ((I 66 5) + 1), xmk, xmk, xmk] [] (124, I, J, R) (some (.int y)) (124, I, J, R)) (b2 : q.toInt ≠ f.toInt) (b3 : x.toInt ≠ -1) (b4 : y.toInt ≠ -1) (b5 : x.toInt < y.toInt) : xEv L xs (d + 1) 128 0 [.ref 63, .ref 23, .int n, .int p, .int q, xmk, xmk, xmk, xmk, xmk, xmk] [] (124, I, J, R) (some (.int 1)) (124, I, J, R) := by
  refine ev_go 1 (pc1 := 1) (lv1 := [.ref 63, .ref 23, .int n, .int p, .int q, xmk, xmk, xmk, xmk, xmk, xmk]) (st1 := [.ref 23]) (h1 := (124, I, J, R)) rfl ?_
  refine ev_gf (c := 23) (t := 37) (X := R 23 13) rfl rfl (fun _ => rfl) rfl (hG 23 13 37 rfl rfl) ?_
  refine ev_go 2 (pc1 := 7) (lv1 := [.ref 63, .ref 23, .int n, .int p, .int q, .ref 37, xmk, xmk, xmk, xmk, xmk]) (st1 := [.ref 23]) (h1 := (124, I, J, R)) rfl ?_
  refine ev_gf (c := 23) (t := 35) (X := R 23 11) rfl rfl (fun _ => rfl) rfl (hG 23 11 35 rfl rfl) ?_
  refine ev_go 1 (pc1 := 11) (lv1 := [.ref 63, .ref 23, .int n, .int p, .int q, .ref 37, xmk, xmk, xmk, xmk, xmk]) (st1 := [.int n, .ref 35]) (h1 := (124, I, J, R)) rfl ?_
  refine ev_call (v1 := (some (.int br))) (h1 := (124, I, J, R)) rfl rfl c1 ?_
  refine ev_go 2 (pc1 := 17) (lv1 := [.ref 63, .ref 23, .int n, .int p, .int q, .ref 37, .int br, xmk, xmk, xmk, xmk]) (st1 := [.ref 23]) (h1 := (124, I, J, R)) rfl ?_
  refine ev_gf (c := 23) (t := 32) (X := R 23 8) rfl rfl (fun _ => rfl) rfl (hG 23 8 32 rfl rfl) ?_
  refine ev_go 1 (pc1 := 21) (lv1 := [.ref 63, .ref 23, .int n, .int p, .int q, .ref 37, .int br, xmk, xmk, xmk, xmk]) (st1 := [.int n, .ref 32]) (h1 := (124, I, J, R)) rfl ?_
  refine ev_call (v1 := (some (.int f))) (h1 := (124, I, J, R)) rfl rfl c2 ?_
  refine ev_go 2 (pc1 := 27) (lv1 := [.ref 63, .ref 23, .int n, .int p, .int q, .ref 37, .int br, .int f, xmk, xmk, xmk]) (st1 := [.ref 63]) (h1 := (124, I, J, R)) rfl ?_
  refine ev_gf (c := 63) (t := 66) (X := R 63 3) rfl rfl (fun _ => rfl) rfl (hG 63 3 66 rfl rfl) ?_
  refine ev_go 5 (pc1 := 38) (lv1 := [.ref 63, .ref 23, .int n, .int p, .int q, .ref 37, .int br, .int f, .int ((I 66 5) + 1), xmk, xmk]) (st1 := [.ref 63]) (h1 := (124, I, J, R)) rfl ?_
  refine ev_gf (c := 63) (t := 64) (X := R 63 0) rfl rfl (fun _ => rfl) rfl (hG 63 0 64 rfl rfl) ?_
  refine ev_go 1 (pc1 := 42) (lv1 := [.ref 63, .ref 23, .int n, .int p, .int q, .ref 37, .int br, .int f, .int ((I 66 5) + 1), xmk, xmk]) (st1 := [.int p, .ref 64]) (h1 := (124, I, J, R)) rfl ?_
  refine ev_call (v1 := (some (.int k))) (h1 := (124, I, J, R)) rfl rfl c3 ?_
  refine ev_tk (x := k) (z := 2) (t := 99) rfl rfl b1 (by decide) rfl rfl ?_
  refine ev_go 5 (pc1 := 109) (lv1 := [.ref 63, .ref 23, .int n, .int p, .int q, .ref 37, .int br, .int f, .int ((I 66 5) + 1), xmk, xmk]) (st1 := [.int ((I 66 5) + 1), .int f, .int q, .int br, .ref 37]) (h1 := (124, I, J, R)) rfl ?_
  refine ev_call (v1 := (some (.int x))) (h1 := (124, I, J, R)) rfl rfl c4 ?_
  refine ev_go 6 (pc1 := 123) (lv1 := [.ref 63, .ref 23, .int n, .int p, .int q, .ref 37, .int br, .int f, .int ((I 66 5) + 1), .int x, xmk]) (st1 := [.int ((I 66 5) + 1), .int f, .int p, .int br, .ref 37]) (h1 := (124, I, J, R)) rfl ?_
  refine ev_call (v1 := (some (.int y))) (h1 := (124, I, J, R)) rfl rfl c5 ?_
  refine ev_go 3 (pc1 := 132) (lv1 := [.ref 63, .ref 23, .int n, .int p, .int q, .ref 37, .int br, .int f, .int ((I 66 5) + 1), .int x, .int y]) (st1 := [.int f, .int q]) (h1 := (124, I, J, R)) rfl ?_
  refine ev_br (b1 := false) rfl rfl (xcd_neq (x := q) (y := f) (by first | exact b2 | omega)) ?_
  refine ev_go 2 (pc1 := 138) (lv1 := [.ref 63, .ref 23, .int n, .int p, .int q, .ref 37, .int br, .int f, .int ((I 66 5) + 1), .int x, .int y]) (st1 := [.int (-1), .int x]) (h1 := (124, I, J, R)) rfl ?_
  refine ev_br (b1 := false) rfl rfl (xcd_neq (x := x) (y := (-1)) (by rw [show ((-1 : Int32)).toInt = -1 from by decide]; first | exact b3 | omega)) ?_
  refine ev_go 2 (pc1 := 144) (lv1 := [.ref 63, .ref 23, .int n, .int p, .int q, .ref 37, .int br, .int f, .int ((I 66 5) + 1), .int x, .int y]) (st1 := [.int (-1), .int y]) (h1 := (124, I, J, R)) rfl ?_
  refine ev_br (b1 := false) rfl rfl (xcd_neq (x := y) (y := (-1)) (by rw [show ((-1 : Int32)).toInt = -1 from by decide]; first | exact b4 | omega)) ?_
  refine ev_go 2 (pc1 := 151) (lv1 := [.ref 63, .ref 23, .int n, .int p, .int q, .ref 37, .int br, .int f, .int ((I 66 5) + 1), .int x, .int y]) (st1 := [.int y, .int x]) (h1 := (124, I, J, R)) rfl ?_
  refine ev_br (b1 := false) rfl rfl (xcd_nge (x := x) (y := y) (by first | exact b5 | omega)) ?_
  refine ev_go 2 (pc1 := 159) (lv1 := [.ref 63, .ref 23, .int n, .int p, .int q, .ref 37, .int br, .int f, .int ((I 66 5) + 1), .int x, .int y]) (st1 := [.int 1]) (h1 := (124, I, J, R)) rfl ?_
  exact ev_ret rfl rfl
set_option maxRecDepth 20000 in
theorem uw3_23 {L : Nat} {xs : Nat → Int32} {d : Nat} {I : Nat → Nat → Int32} {J : Nat → Nat → Int64} {R : Nat → Nat → Nat} {n p q br f k : Int32} (hG : aGd R) (c1 : xEv L xs d 39 0 [.ref 35, .int n] [] (124, I, J, R) (some (.int br)) (124, I, J, R)) (c2 : xEv L xs d 39 0 [.ref 32, .int n] [] (124, I, J, R) (some (.int f)) (124, I, J, R)) (c3 : xEv L xs d 39 0 [.ref 64, .int p] [] (124, I, J, R) (some (.int k)) (124, I, J, R)) (b1 : k.toInt = 3) : xEv L xs (d + 1) 128 0 [.ref 63, .ref 23, .int n, .int p, .int q, xmk, xmk, xmk, xmk, xmk, xmk] [] (124, I, J, R) (some (.int 1)) (124, I, J, R) := by
  refine ev_go 1 (pc1 := 1) (lv1 := [.ref 63, .ref 23, .int n, .int p, .int q, xmk, xmk, xmk, xmk, xmk, xmk]) (st1 := [.ref 23]) (h1 := (124, I, J, R)) rfl ?_
  refine ev_gf (c := 23) (t := 37) (X := R 23 13) rfl rfl (fun _ => rfl) rfl (hG 23 13 37 rfl rfl) ?_
  refine ev_go 2 (pc1 := 7) (lv1 := [.ref 63, .ref 23, .int n, .int p, .int q, .ref 37, xmk, xmk, xmk, xmk, xmk]) (st1 := [.ref 23]) (h1 := (124, I, J, R)) rfl ?_
  refine ev_gf (c := 23) (t := 35) (X := R 23 11) rfl rfl (fun _ => rfl) rfl (hG 23 11 35 rfl rfl) ?_
  refine ev_go 1 (pc1 := 11) (lv1 := [.ref 63, .ref 23, .int n, .int p, .int q, .ref 37, xmk, xmk, xmk, xmk, xmk]) (st1 := [.int n, .ref 35]) (h1 := (124, I, J, R)) rfl ?_
  refine ev_call (v1 := (some (.int br))) (h1 := (124, I, J, R)) rfl rfl c1 ?_
  refine ev_go 2 (pc1 := 17) (lv1 := [.ref 63, .ref 23, .int n, .int p, .int q, .ref 37, .int br, xmk, xmk, xmk, xmk]) (st1 := [.ref 23]) (h1 := (124, I, J, R)) rfl ?_
  refine ev_gf (c := 23) (t := 32) (X := R 23 8) rfl rfl (fun _ => rfl) rfl (hG 23 8 32 rfl rfl) ?_
  refine ev_go 1 (pc1 := 21) (lv1 := [.ref 63, .ref 23, .int n, .int p, .int q, .ref 37, .int br, xmk, xmk, xmk, xmk]) (st1 := [.int n, .ref 32]) (h1 := (124, I, J, R)) rfl ?_
  refine ev_call (v1 := (some (.int f))) (h1 := (124, I, J, R)) rfl rfl c2 ?_
  refine ev_go 2 (pc1 := 27) (lv1 := [.ref 63, .ref 23, .int n, .int p, .int q, .ref 37, .int br, .int f, xmk, xmk, xmk]) (st1 := [.ref 63]) (h1 := (124, I, J, R)) rfl ?_
  refine ev_gf (c := 63) (t := 66) (X := R 63 3) rfl rfl (fun _ => rfl) rfl (hG 63 3 66 rfl rfl) ?_
  refine ev_go 5 (pc1 := 38) (lv1 := [.ref 63, .ref 23, .int n, .int p, .int q, .ref 37, .int br, .int f, .int ((I 66 5) + 1), xmk, xmk]) (st1 := [.ref 63]) (h1 := (124, I, J, R)) rfl ?_
  refine ev_gf (c := 63) (t := 64) (X := R 63 0) rfl rfl (fun _ => rfl) rfl (hG 63 0 64 rfl rfl) ?_
  refine ev_go 1 (pc1 := 42) (lv1 := [.ref 63, .ref 23, .int n, .int p, .int q, .ref 37, .int br, .int f, .int ((I 66 5) + 1), xmk, xmk]) (st1 := [.int p, .ref 64]) (h1 := (124, I, J, R)) rfl ?_
  refine ev_call (v1 := (some (.int k))) (h1 := (124, I, J, R)) rfl rfl c3 ?_
  refine ev_tk (x := k) (z := 3) (t := 160) rfl rfl b1 (by decide) rfl rfl ?_
  refine ev_go 1 (pc1 := 161) (lv1 := [.ref 63, .ref 23, .int n, .int p, .int q, .ref 37, .int br, .int f, .int ((I 66 5) + 1), xmk, xmk]) (st1 := [.int 1]) (h1 := (124, I, J, R)) rfl ?_
  exact ev_ret rfl rfl
set_option maxRecDepth 20000 in
theorem uw4n_23 {L : Nat} {xs : Nat → Int32} {d : Nat} {I : Nat → Nat → Int32} {J : Nat → Nat → Int64} {R : Nat → Nat → Nat} {n p q br f k m : Int32} (hG : aGd R) (c1 : xEv L xs d 39 0 [.ref 35, .int n] [] (124, I, J, R) (some (.int br)) (124, I, J, R)) (c2 : xEv L xs d 39 0 [.ref 32, .int n] [] (124, I, J, R) (some (.int f)) (124, I, J, R)) (c3 : xEv L xs d 39 0 [.ref 64, .int p] [] (124, I, J, R) (some (.int k)) (124, I, J, R)) (b1 : k.toInt = 4) (c4 : xEv L xs d 39 0 [.ref 70, .int n] [] (124, I, J, R) (some (.int m)) (124, I, J, R)) (b2 : q.toInt ≠ m.toInt) : xEv L xs (d + 1) 128 0 [.ref 63, .ref 23, .int n, .int p, .int q, xmk, xmk, xmk, xmk, xmk, xmk] [] (124, I, J, R) (some (.int 0)) (124, I, J, R) := by
  refine ev_go 1 (pc1 := 1) (lv1 := [.ref 63, .ref 23, .int n, .int p, .int q, xmk, xmk, xmk, xmk, xmk, xmk]) (st1 := [.ref 23]) (h1 := (124, I, J, R)) rfl ?_
  refine ev_gf (c := 23) (t := 37) (X := R 23 13) rfl rfl (fun _ => rfl) rfl (hG 23 13 37 rfl rfl) ?_
  refine ev_go 2 (pc1 := 7) (lv1 := [.ref 63, .ref 23, .int n, .int p, .int q, .ref 37, xmk, xmk, xmk, xmk, xmk]) (st1 := [.ref 23]) (h1 := (124, I, J, R)) rfl ?_
  refine ev_gf (c := 23) (t := 35) (X := R 23 11) rfl rfl (fun _ => rfl) rfl (hG 23 11 35 rfl rfl) ?_
  refine ev_go 1 (pc1 := 11) (lv1 := [.ref 63, .ref 23, .int n, .int p, .int q, .ref 37, xmk, xmk, xmk, xmk, xmk]) (st1 := [.int n, .ref 35]) (h1 := (124, I, J, R)) rfl ?_
  refine ev_call (v1 := (some (.int br))) (h1 := (124, I, J, R)) rfl rfl c1 ?_
  refine ev_go 2 (pc1 := 17) (lv1 := [.ref 63, .ref 23, .int n, .int p, .int q, .ref 37, .int br, xmk, xmk, xmk, xmk]) (st1 := [.ref 23]) (h1 := (124, I, J, R)) rfl ?_
  refine ev_gf (c := 23) (t := 32) (X := R 23 8) rfl rfl (fun _ => rfl) rfl (hG 23 8 32 rfl rfl) ?_
  refine ev_go 1 (pc1 := 21) (lv1 := [.ref 63, .ref 23, .int n, .int p, .int q, .ref 37, .int br, xmk, xmk, xmk, xmk]) (st1 := [.int n, .ref 32]) (h1 := (124, I, J, R)) rfl ?_
  refine ev_call (v1 := (some (.int f))) (h1 := (124, I, J, R)) rfl rfl c2 ?_
  refine ev_go 2 (pc1 := 27) (lv1 := [.ref 63, .ref 23, .int n, .int p, .int q, .ref 37, .int br, .int f, xmk, xmk, xmk]) (st1 := [.ref 63]) (h1 := (124, I, J, R)) rfl ?_
  refine ev_gf (c := 63) (t := 66) (X := R 63 3) rfl rfl (fun _ => rfl) rfl (hG 63 3 66 rfl rfl) ?_
  refine ev_go 5 (pc1 := 38) (lv1 := [.ref 63, .ref 23, .int n, .int p, .int q, .ref 37, .int br, .int f, .int ((I 66 5) + 1), xmk, xmk]) (st1 := [.ref 63]) (h1 := (124, I, J, R)) rfl ?_
  refine ev_gf (c := 63) (t := 64) (X := R 63 0) rfl rfl (fun _ => rfl) rfl (hG 63 0 64 rfl rfl) ?_
  refine ev_go 1 (pc1 := 42) (lv1 := [.ref 63, .ref 23, .int n, .int p, .int q, .ref 37, .int br, .int f, .int ((I 66 5) + 1), xmk, xmk]) (st1 := [.int p, .ref 64]) (h1 := (124, I, J, R)) rfl ?_
  refine ev_call (v1 := (some (.int k))) (h1 := (124, I, J, R)) rfl rfl c3 ?_
  refine ev_tk (x := k) (z := 4) (t := 162) rfl rfl b1 (by decide) rfl rfl ?_
  refine ev_go 2 (pc1 := 165) (lv1 := [.ref 63, .ref 23, .int n, .int p, .int q, .ref 37, .int br, .int f, .int ((I 66 5) + 1), xmk, xmk]) (st1 := [.ref 63, .int q]) (h1 := (124, I, J, R)) rfl ?_
  refine ev_gf (c := 63) (t := 66) (X := R 63 3) rfl rfl (fun _ => rfl) rfl (hG 63 3 66 rfl rfl) ?_
  refine ev_gf (c := 66) (t := 70) (X := R 66 3) rfl rfl (fun _ => rfl) rfl (hG 66 3 70 rfl rfl) ?_
  refine ev_go 1 (pc1 := 172) (lv1 := [.ref 63, .ref 23, .int n, .int p, .int q, .ref 37, .int br, .int f, .int ((I 66 5) + 1), xmk, xmk]) (st1 := [.int n, .ref 70, .int q]) (h1 := (124, I, J, R)) rfl ?_
  refine ev_call (v1 := (some (.int m))) (h1 := (124, I, J, R)) rfl rfl c4 ?_
  refine ev_br (b1 := true) rfl rfl (xcd_ne (x := q) (y := m) (by first | exact b2 | omega)) ?_
  refine ev_go 1 (pc1 := 183) (lv1 := [.ref 63, .ref 23, .int n, .int p, .int q, .ref 37, .int br, .int f, .int ((I 66 5) + 1), xmk, xmk]) (st1 := [.int 0]) (h1 := (124, I, J, R)) rfl ?_
  exact ev_ret rfl rfl
set_option maxRecDepth 20000 in
theorem uw4y_23 {L : Nat} {xs : Nat → Int32} {d : Nat} {I : Nat → Nat → Int32} {J : Nat → Nat → Int64} {R : Nat → Nat → Nat} {n p q br f k m : Int32} (hG : aGd R) (c1 : xEv L xs d 39 0 [.ref 35, .int n] [] (124, I, J, R) (some (.int br)) (124, I, J, R)) (c2 : xEv L xs d 39 0 [.ref 32, .int n] [] (124, I, J, R) (some (.int f)) (124, I, J, R)) (c3 : xEv L xs d 39 0 [.ref 64, .int p] [] (124, I, J, R) (some (.int k)) (124, I, J, R)) (b1 : k.toInt = 4) (c4 : xEv L xs d 39 0 [.ref 70, .int n] [] (124, I, J, R) (some (.int m)) (124, I, J, R)) (b2 : q.toInt = m.toInt) : xEv L xs (d + 1) 128 0 [.ref 63, .ref 23, .int n, .int p, .int q, xmk, xmk, xmk, xmk, xmk, xmk] [] (124, I, J, R) (some (.int 1)) (124, I, J, R) := by
  refine ev_go 1 (pc1 := 1) (lv1 := [.ref 63, .ref 23, .int n, .int p, .int q, xmk, xmk, xmk, xmk, xmk, xmk]) (st1 := [.ref 23]) (h1 := (124, I, J, R)) rfl ?_
  refine ev_gf (c := 23) (t := 37) (X := R 23 13) rfl rfl (fun _ => rfl) rfl (hG 23 13 37 rfl rfl) ?_
  refine ev_go 2 (pc1 := 7) (lv1 := [.ref 63, .ref 23, .int n, .int p, .int q, .ref 37, xmk, xmk, xmk, xmk, xmk]) (st1 := [.ref 23]) (h1 := (124, I, J, R)) rfl ?_
  refine ev_gf (c := 23) (t := 35) (X := R 23 11) rfl rfl (fun _ => rfl) rfl (hG 23 11 35 rfl rfl) ?_
  refine ev_go 1 (pc1 := 11) (lv1 := [.ref 63, .ref 23, .int n, .int p, .int q, .ref 37, xmk, xmk, xmk, xmk, xmk]) (st1 := [.int n, .ref 35]) (h1 := (124, I, J, R)) rfl ?_
  refine ev_call (v1 := (some (.int br))) (h1 := (124, I, J, R)) rfl rfl c1 ?_
  refine ev_go 2 (pc1 := 17) (lv1 := [.ref 63, .ref 23, .int n, .int p, .int q, .ref 37, .int br, xmk, xmk, xmk, xmk]) (st1 := [.ref 23]) (h1 := (124, I, J, R)) rfl ?_
  refine ev_gf (c := 23) (t := 32) (X := R 23 8) rfl rfl (fun _ => rfl) rfl (hG 23 8 32 rfl rfl) ?_
  refine ev_go 1 (pc1 := 21) (lv1 := [.ref 63, .ref 23, .int n, .int p, .int q, .ref 37, .int br, xmk, xmk, xmk, xmk]) (st1 := [.int n, .ref 32]) (h1 := (124, I, J, R)) rfl ?_
  refine ev_call (v1 := (some (.int f))) (h1 := (124, I, J, R)) rfl rfl c2 ?_
  refine ev_go 2 (pc1 := 27) (lv1 := [.ref 63, .ref 23, .int n, .int p, .int q, .ref 37, .int br, .int f, xmk, xmk, xmk]) (st1 := [.ref 63]) (h1 := (124, I, J, R)) rfl ?_
  refine ev_gf (c := 63) (t := 66) (X := R 63 3) rfl rfl (fun _ => rfl) rfl (hG 63 3 66 rfl rfl) ?_
  refine ev_go 5 (pc1 := 38) (lv1 := [.ref 63, .ref 23, .int n, .int p, .int q, .ref 37, .int br, .int f, .int ((I 66 5) + 1), xmk, xmk]) (st1 := [.ref 63]) (h1 := (124, I, J, R)) rfl ?_
  refine ev_gf (c := 63) (t := 64) (X := R 63 0) rfl rfl (fun _ => rfl) rfl (hG 63 0 64 rfl rfl) ?_
  refine ev_go 1 (pc1 := 42) (lv1 := [.ref 63, .ref 23, .int n, .int p, .int q, .ref 37, .int br, .int f, .int ((I 66 5) + 1), xmk, xmk]) (st1 := [.int p, .ref 64]) (h1 := (124, I, J, R)) rfl ?_
  refine ev_call (v1 := (some (.int k))) (h1 := (124, I, J, R)) rfl rfl c3 ?_
  refine ev_tk (x := k) (z := 4) (t := 162) rfl rfl b1 (by decide) rfl rfl ?_
  refine ev_go 2 (pc1 := 165) (lv1 := [.ref 63, .ref 23, .int n, .int p, .int q, .ref 37, .int br, .int f, .int ((I 66 5) + 1), xmk, xmk]) (st1 := [.ref 63, .int q]) (h1 := (124, I, J, R)) rfl ?_
  refine ev_gf (c := 63) (t := 66) (X := R 63 3) rfl rfl (fun _ => rfl) rfl (hG 63 3 66 rfl rfl) ?_
  refine ev_gf (c := 66) (t := 70) (X := R 66 3) rfl rfl (fun _ => rfl) rfl (hG 66 3 70 rfl rfl) ?_
  refine ev_go 1 (pc1 := 172) (lv1 := [.ref 63, .ref 23, .int n, .int p, .int q, .ref 37, .int br, .int f, .int ((I 66 5) + 1), xmk, xmk]) (st1 := [.int n, .ref 70, .int q]) (h1 := (124, I, J, R)) rfl ?_
  refine ev_call (v1 := (some (.int m))) (h1 := (124, I, J, R)) rfl rfl c4 ?_
  refine ev_br (b1 := false) rfl rfl (xcd_nne (x := q) (y := m) (by first | exact b2 | omega)) ?_
  refine ev_go 2 (pc1 := 183) (lv1 := [.ref 63, .ref 23, .int n, .int p, .int q, .ref 37, .int br, .int f, .int ((I 66 5) + 1), xmk, xmk]) (st1 := [.int 1]) (h1 := (124, I, J, R)) rfl ?_
  exact ev_ret rfl rfl
set_option maxRecDepth 20000 in
theorem uw5t_23 {L : Nat} {xs : Nat → Int32} {d : Nat} {I : Nat → Nat → Int32} {J : Nat → Nat → Int64} {R : Nat → Nat → Nat} {I1 : Nat → Nat → Int32} {J1 : Nat → Nat → Int64} {n p q br f k b : Int32} (hG : aGd R) (c1 : xEv L xs d 39 0 [.ref 35, .int n] [] (124, I, J, R) (some (.int br)) (124, I, J, R)) (c2 : xEv L xs d 39 0 [.ref 32, .int n] [] (124, I, J, R) (some (.int f)) (124, I, J, R)) (c3 : xEv L xs d 39 0 [.ref 64, .int p] [] (124, I, J, R) (some (.int k)) (124, I, J, R)) (b1 : k.toInt = 5) (c4 : xEv L xs d 39 0 [.ref 36, .int n] [] (124, I, J, R) (some (.int b)) (124, I, J, R)) (c5 : xEv L xs d 69 0 [.ref 53, .ref 37, .int br, .int f, .int ((I 66 5) + 1), .int b, xmk, xmk, xmk, xmk] [] (124, I, J, R) none (124, I1, J1, R)) (b2 : q.toInt = f.toInt) : xEv L xs (d + 1) 128 0 [.ref 63, .ref 23, .int n, .int p, .int q, xmk, xmk, xmk, xmk, xmk, xmk] [] (124, I, J, R) (some (.int 1)) (124, I1, J1, R) := by
  refine ev_go 1 (pc1 := 1) (lv1 := [.ref 63, .ref 23, .int n, .int p, .int q, xmk, xmk, xmk, xmk, xmk, xmk]) (st1 := [.ref 23]) (h1 := (124, I, J, R)) rfl ?_
  refine ev_gf (c := 23) (t := 37) (X := R 23 13) rfl rfl (fun _ => rfl) rfl (hG 23 13 37 rfl rfl) ?_
  refine ev_go 2 (pc1 := 7) (lv1 := [.ref 63, .ref 23, .int n, .int p, .int q, .ref 37, xmk, xmk, xmk, xmk, xmk]) (st1 := [.ref 23]) (h1 := (124, I, J, R)) rfl ?_
  refine ev_gf (c := 23) (t := 35) (X := R 23 11) rfl rfl (fun _ => rfl) rfl (hG 23 11 35 rfl rfl) ?_
  refine ev_go 1 (pc1 := 11) (lv1 := [.ref 63, .ref 23, .int n, .int p, .int q, .ref 37, xmk, xmk, xmk, xmk, xmk]) (st1 := [.int n, .ref 35]) (h1 := (124, I, J, R)) rfl ?_
  refine ev_call (v1 := (some (.int br))) (h1 := (124, I, J, R)) rfl rfl c1 ?_
  refine ev_go 2 (pc1 := 17) (lv1 := [.ref 63, .ref 23, .int n, .int p, .int q, .ref 37, .int br, xmk, xmk, xmk, xmk]) (st1 := [.ref 23]) (h1 := (124, I, J, R)) rfl ?_
  refine ev_gf (c := 23) (t := 32) (X := R 23 8) rfl rfl (fun _ => rfl) rfl (hG 23 8 32 rfl rfl) ?_
  refine ev_go 1 (pc1 := 21) (lv1 := [.ref 63, .ref 23, .int n, .int p, .int q, .ref 37, .int br, xmk, xmk, xmk, xmk]) (st1 := [.int n, .ref 32]) (h1 := (124, I, J, R)) rfl ?_
  refine ev_call (v1 := (some (.int f))) (h1 := (124, I, J, R)) rfl rfl c2 ?_
  refine ev_go 2 (pc1 := 27) (lv1 := [.ref 63, .ref 23, .int n, .int p, .int q, .ref 37, .int br, .int f, xmk, xmk, xmk]) (st1 := [.ref 63]) (h1 := (124, I, J, R)) rfl ?_
  refine ev_gf (c := 63) (t := 66) (X := R 63 3) rfl rfl (fun _ => rfl) rfl (hG 63 3 66 rfl rfl) ?_
  refine ev_go 5 (pc1 := 38) (lv1 := [.ref 63, .ref 23, .int n, .int p, .int q, .ref 37, .int br, .int f, .int ((I 66 5) + 1), xmk, xmk]) (st1 := [.ref 63]) (h1 := (124, I, J, R)) rfl ?_
  refine ev_gf (c := 63) (t := 64) (X := R 63 0) rfl rfl (fun _ => rfl) rfl (hG 63 0 64 rfl rfl) ?_
  refine ev_go 1 (pc1 := 42) (lv1 := [.ref 63, .ref 23, .int n, .int p, .int q, .ref 37, .int br, .int f, .int ((I 66 5) + 1), xmk, xmk]) (st1 := [.int p, .ref 64]) (h1 := (124, I, J, R)) rfl ?_
  refine ev_call (v1 := (some (.int k))) (h1 := (124, I, J, R)) rfl rfl c3 ?_
  refine ev_tk (x := k) (z := 5) (t := 184) rfl rfl b1 (by decide) rfl rfl ?_
  refine ev_go 1 (pc1 := 185) (lv1 := [.ref 63, .ref 23, .int n, .int p, .int q, .ref 37, .int br, .int f, .int ((I 66 5) + 1), xmk, xmk]) (st1 := [.ref 63]) (h1 := (124, I, J, R)) rfl ?_
  refine ev_gf (c := 63) (t := 53) (X := R 63 2) rfl rfl (fun _ => rfl) rfl (hG 63 2 53 rfl rfl) ?_
  refine ev_go 5 (pc1 := 197) (lv1 := [.ref 63, .ref 23, .int n, .int p, .int q, .ref 37, .int br, .int f, .int ((I 66 5) + 1), xmk, xmk]) (st1 := [.ref 23, .int ((I 66 5) + 1), .int f, .int br, .ref 37, .ref 53]) (h1 := (124, I, J, R)) rfl ?_
  refine ev_gf (c := 23) (t := 36) (X := R 23 12) rfl rfl (fun _ => rfl) rfl (hG 23 12 36 rfl rfl) ?_
  refine ev_go 1 (pc1 := 201) (lv1 := [.ref 63, .ref 23, .int n, .int p, .int q, .ref 37, .int br, .int f, .int ((I 66 5) + 1), xmk, xmk]) (st1 := [.int n, .ref 36, .int ((I 66 5) + 1), .int f, .int br, .ref 37, .ref 53]) (h1 := (124, I, J, R)) rfl ?_
  refine ev_call (v1 := (some (.int b))) (h1 := (124, I, J, R)) rfl rfl c4 ?_
  refine ev_call (v1 := none) (h1 := (124, I1, J1, R)) rfl rfl c5 ?_
  refine ev_go 2 (pc1 := 211) (lv1 := [.ref 63, .ref 23, .int n, .int p, .int q, .ref 37, .int br, .int f, .int ((I 66 5) + 1), xmk, xmk]) (st1 := [.int f, .int q]) (h1 := (124, I1, J1, R)) rfl ?_
  refine ev_br (b1 := true) rfl rfl (xcd_eq (x := q) (y := f) (by first | exact b2 | omega)) ?_
  refine ev_go 2 (pc1 := 232) (lv1 := [.ref 63, .ref 23, .int n, .int p, .int q, .ref 37, .int br, .int f, .int ((I 66 5) + 1), xmk, xmk]) (st1 := [.int 1]) (h1 := (124, I1, J1, R)) rfl ?_
  exact ev_ret rfl rfl
set_option maxRecDepth 20000 in
theorem uw5y_23 {L : Nat} {xs : Nat → Int32} {d : Nat} {I : Nat → Nat → Int32} {J : Nat → Nat → Int64} {R : Nat → Nat → Nat} {I1 : Nat → Nat → Int32} {J1 : Nat → Nat → Int64} {n p q br f k b o : Int32} (hG : aGd R) (c1 : xEv L xs d 39 0 [.ref 35, .int n] [] (124, I, J, R) (some (.int br)) (124, I, J, R)) (c2 : xEv L xs d 39 0 [.ref 32, .int n] [] (124, I, J, R) (some (.int f)) (124, I, J, R)) (c3 : xEv L xs d 39 0 [.ref 64, .int p] [] (124, I, J, R) (some (.int k)) (124, I, J, R)) (b1 : k.toInt = 5) (c4 : xEv L xs d 39 0 [.ref 36, .int n] [] (124, I, J, R) (some (.int b)) (124, I, J, R)) (c5 : xEv L xs d 69 0 [.ref 53, .ref 37, .int br, .int f, .int ((I 66 5) + 1), .int b, xmk, xmk, xmk, xmk] [] (124, I, J, R) none (124, I1, J1, R)) (b2 : q.toInt ≠ f.toInt) (c6 : xEv L xs d 72 0 [.ref 53, .int q, .int p, xmk, xmk] [] (124, I1, J1, R) (some (.int o)) (124, I1, J1, R)) (b3 : o.toInt > 0) : xEv L xs (d + 1) 128 0 [.ref 63, .ref 23, .int n, .int p, .int q, xmk, xmk, xmk, xmk, xmk, xmk] [] (124, I, J, R) (some (.int 1)) (124, I1, J1, R) := by
  refine ev_go 1 (pc1 := 1) (lv1 := [.ref 63, .ref 23, .int n, .int p, .int q, xmk, xmk, xmk, xmk, xmk, xmk]) (st1 := [.ref 23]) (h1 := (124, I, J, R)) rfl ?_
  refine ev_gf (c := 23) (t := 37) (X := R 23 13) rfl rfl (fun _ => rfl) rfl (hG 23 13 37 rfl rfl) ?_
  refine ev_go 2 (pc1 := 7) (lv1 := [.ref 63, .ref 23, .int n, .int p, .int q, .ref 37, xmk, xmk, xmk, xmk, xmk]) (st1 := [.ref 23]) (h1 := (124, I, J, R)) rfl ?_
  refine ev_gf (c := 23) (t := 35) (X := R 23 11) rfl rfl (fun _ => rfl) rfl (hG 23 11 35 rfl rfl) ?_
  refine ev_go 1 (pc1 := 11) (lv1 := [.ref 63, .ref 23, .int n, .int p, .int q, .ref 37, xmk, xmk, xmk, xmk, xmk]) (st1 := [.int n, .ref 35]) (h1 := (124, I, J, R)) rfl ?_
  refine ev_call (v1 := (some (.int br))) (h1 := (124, I, J, R)) rfl rfl c1 ?_
  refine ev_go 2 (pc1 := 17) (lv1 := [.ref 63, .ref 23, .int n, .int p, .int q, .ref 37, .int br, xmk, xmk, xmk, xmk]) (st1 := [.ref 23]) (h1 := (124, I, J, R)) rfl ?_
  refine ev_gf (c := 23) (t := 32) (X := R 23 8) rfl rfl (fun _ => rfl) rfl (hG 23 8 32 rfl rfl) ?_
  refine ev_go 1 (pc1 := 21) (lv1 := [.ref 63, .ref 23, .int n, .int p, .int q, .ref 37, .int br, xmk, xmk, xmk, xmk]) (st1 := [.int n, .ref 32]) (h1 := (124, I, J, R)) rfl ?_
  refine ev_call (v1 := (some (.int f))) (h1 := (124, I, J, R)) rfl rfl c2 ?_
  refine ev_go 2 (pc1 := 27) (lv1 := [.ref 63, .ref 23, .int n, .int p, .int q, .ref 37, .int br, .int f, xmk, xmk, xmk]) (st1 := [.ref 63]) (h1 := (124, I, J, R)) rfl ?_
  refine ev_gf (c := 63) (t := 66) (X := R 63 3) rfl rfl (fun _ => rfl) rfl (hG 63 3 66 rfl rfl) ?_
  refine ev_go 5 (pc1 := 38) (lv1 := [.ref 63, .ref 23, .int n, .int p, .int q, .ref 37, .int br, .int f, .int ((I 66 5) + 1), xmk, xmk]) (st1 := [.ref 63]) (h1 := (124, I, J, R)) rfl ?_
  refine ev_gf (c := 63) (t := 64) (X := R 63 0) rfl rfl (fun _ => rfl) rfl (hG 63 0 64 rfl rfl) ?_
  refine ev_go 1 (pc1 := 42) (lv1 := [.ref 63, .ref 23, .int n, .int p, .int q, .ref 37, .int br, .int f, .int ((I 66 5) + 1), xmk, xmk]) (st1 := [.int p, .ref 64]) (h1 := (124, I, J, R)) rfl ?_
  refine ev_call (v1 := (some (.int k))) (h1 := (124, I, J, R)) rfl rfl c3 ?_
  refine ev_tk (x := k) (z := 5) (t := 184) rfl rfl b1 (by decide) rfl rfl ?_
  refine ev_go 1 (pc1 := 185) (lv1 := [.ref 63, .ref 23, .int n, .int p, .int q, .ref 37, .int br, .int f, .int ((I 66 5) + 1), xmk, xmk]) (st1 := [.ref 63]) (h1 := (124, I, J, R)) rfl ?_
  refine ev_gf (c := 63) (t := 53) (X := R 63 2) rfl rfl (fun _ => rfl) rfl (hG 63 2 53 rfl rfl) ?_
  refine ev_go 5 (pc1 := 197) (lv1 := [.ref 63, .ref 23, .int n, .int p, .int q, .ref 37, .int br, .int f, .int ((I 66 5) + 1), xmk, xmk]) (st1 := [.ref 23, .int ((I 66 5) + 1), .int f, .int br, .ref 37, .ref 53]) (h1 := (124, I, J, R)) rfl ?_
  refine ev_gf (c := 23) (t := 36) (X := R 23 12) rfl rfl (fun _ => rfl) rfl (hG 23 12 36 rfl rfl) ?_
  refine ev_go 1 (pc1 := 201) (lv1 := [.ref 63, .ref 23, .int n, .int p, .int q, .ref 37, .int br, .int f, .int ((I 66 5) + 1), xmk, xmk]) (st1 := [.int n, .ref 36, .int ((I 66 5) + 1), .int f, .int br, .ref 37, .ref 53]) (h1 := (124, I, J, R)) rfl ?_
  refine ev_call (v1 := (some (.int b))) (h1 := (124, I, J, R)) rfl rfl c4 ?_
  refine ev_call (v1 := none) (h1 := (124, I1, J1, R)) rfl rfl c5 ?_
  refine ev_go 2 (pc1 := 211) (lv1 := [.ref 63, .ref 23, .int n, .int p, .int q, .ref 37, .int br, .int f, .int ((I 66 5) + 1), xmk, xmk]) (st1 := [.int f, .int q]) (h1 := (124, I1, J1, R)) rfl ?_
  refine ev_br (b1 := false) rfl rfl (xcd_neq (x := q) (y := f) (by first | exact b2 | omega)) ?_
  refine ev_go 1 (pc1 := 215) (lv1 := [.ref 63, .ref 23, .int n, .int p, .int q, .ref 37, .int br, .int f, .int ((I 66 5) + 1), xmk, xmk]) (st1 := [.ref 63]) (h1 := (124, I1, J1, R)) rfl ?_
  refine ev_gf (c := 63) (t := 53) (X := R 63 2) rfl rfl (fun _ => rfl) rfl (hG 63 2 53 rfl rfl) ?_
  refine ev_go 2 (pc1 := 221) (lv1 := [.ref 63, .ref 23, .int n, .int p, .int q, .ref 37, .int br, .int f, .int ((I 66 5) + 1), xmk, xmk]) (st1 := [.int p, .int q, .ref 53]) (h1 := (124, I1, J1, R)) rfl ?_
  refine ev_call (v1 := (some (.int o))) (h1 := (124, I1, J1, R)) rfl rfl c6 ?_
  refine ev_br (b1 := false) rfl rfl (xcd_nle (x := o) (y := 0) (by rw [show ((0 : Int32)).toInt = 0 from by decide]; first | exact b3 | omega)) ?_
  refine ev_go 2 (pc1 := 232) (lv1 := [.ref 63, .ref 23, .int n, .int p, .int q, .ref 37, .int br, .int f, .int ((I 66 5) + 1), xmk, xmk]) (st1 := [.int 1]) (h1 := (124, I1, J1, R)) rfl ?_
  exact ev_ret rfl rfl
set_option maxRecDepth 20000 in
theorem uw5n_23 {L : Nat} {xs : Nat → Int32} {d : Nat} {I : Nat → Nat → Int32} {J : Nat → Nat → Int64} {R : Nat → Nat → Nat} {I1 : Nat → Nat → Int32} {J1 : Nat → Nat → Int64} {n p q br f k b o : Int32} (hG : aGd R) (c1 : xEv L xs d 39 0 [.ref 35, .int n] [] (124, I, J, R) (some (.int br)) (124, I, J, R)) (c2 : xEv L xs d 39 0 [.ref 32, .int n] [] (124, I, J, R) (some (.int f)) (124, I, J, R)) (c3 : xEv L xs d 39 0 [.ref 64, .int p] [] (124, I, J, R) (some (.int k)) (124, I, J, R)) (b1 : k.toInt = 5) (c4 : xEv L xs d 39 0 [.ref 36, .int n] [] (124, I, J, R) (some (.int b)) (124, I, J, R)) (c5 : xEv L xs d 69 0 [.ref 53, .ref 37, .int br, .int f, .int ((I 66 5) + 1), .int b, xmk, xmk, xmk, xmk] [] (124, I, J, R) none (124, I1, J1, R)) (b2 : q.toInt ≠ f.toInt) (c6 : xEv L xs d 72 0 [.ref 53, .int q, .int p, xmk, xmk] [] (124, I1, J1, R) (some (.int o)) (124, I1, J1, R)) (b3 : o.toInt ≤ 0) : xEv L xs (d + 1) 128 0 [.ref 63, .ref 23, .int n, .int p, .int q, xmk, xmk, xmk, xmk, xmk, xmk] [] (124, I, J, R) (some (.int 0)) (124, I1, J1, R) := by
  refine ev_go 1 (pc1 := 1) (lv1 := [.ref 63, .ref 23, .int n, .int p, .int q, xmk, xmk, xmk, xmk, xmk, xmk]) (st1 := [.ref 23]) (h1 := (124, I, J, R)) rfl ?_
  refine ev_gf (c := 23) (t := 37) (X := R 23 13) rfl rfl (fun _ => rfl) rfl (hG 23 13 37 rfl rfl) ?_
  refine ev_go 2 (pc1 := 7) (lv1 := [.ref 63, .ref 23, .int n, .int p, .int q, .ref 37, xmk, xmk, xmk, xmk, xmk]) (st1 := [.ref 23]) (h1 := (124, I, J, R)) rfl ?_
  refine ev_gf (c := 23) (t := 35) (X := R 23 11) rfl rfl (fun _ => rfl) rfl (hG 23 11 35 rfl rfl) ?_
  refine ev_go 1 (pc1 := 11) (lv1 := [.ref 63, .ref 23, .int n, .int p, .int q, .ref 37, xmk, xmk, xmk, xmk, xmk]) (st1 := [.int n, .ref 35]) (h1 := (124, I, J, R)) rfl ?_
  refine ev_call (v1 := (some (.int br))) (h1 := (124, I, J, R)) rfl rfl c1 ?_
  refine ev_go 2 (pc1 := 17) (lv1 := [.ref 63, .ref 23, .int n, .int p, .int q, .ref 37, .int br, xmk, xmk, xmk, xmk]) (st1 := [.ref 23]) (h1 := (124, I, J, R)) rfl ?_
  refine ev_gf (c := 23) (t := 32) (X := R 23 8) rfl rfl (fun _ => rfl) rfl (hG 23 8 32 rfl rfl) ?_
  refine ev_go 1 (pc1 := 21) (lv1 := [.ref 63, .ref 23, .int n, .int p, .int q, .ref 37, .int br, xmk, xmk, xmk, xmk]) (st1 := [.int n, .ref 32]) (h1 := (124, I, J, R)) rfl ?_
  refine ev_call (v1 := (some (.int f))) (h1 := (124, I, J, R)) rfl rfl c2 ?_
  refine ev_go 2 (pc1 := 27) (lv1 := [.ref 63, .ref 23, .int n, .int p, .int q, .ref 37, .int br, .int f, xmk, xmk, xmk]) (st1 := [.ref 63]) (h1 := (124, I, J, R)) rfl ?_
  refine ev_gf (c := 63) (t := 66) (X := R 63 3) rfl rfl (fun _ => rfl) rfl (hG 63 3 66 rfl rfl) ?_
  refine ev_go 5 (pc1 := 38) (lv1 := [.ref 63, .ref 23, .int n, .int p, .int q, .ref 37, .int br, .int f, .int ((I 66 5) + 1), xmk, xmk]) (st1 := [.ref 63]) (h1 := (124, I, J, R)) rfl ?_
  refine ev_gf (c := 63) (t := 64) (X := R 63 0) rfl rfl (fun _ => rfl) rfl (hG 63 0 64 rfl rfl) ?_
  refine ev_go 1 (pc1 := 42) (lv1 := [.ref 63, .ref 23, .int n, .int p, .int q, .ref 37, .int br, .int f, .int ((I 66 5) + 1), xmk, xmk]) (st1 := [.int p, .ref 64]) (h1 := (124, I, J, R)) rfl ?_
  refine ev_call (v1 := (some (.int k))) (h1 := (124, I, J, R)) rfl rfl c3 ?_
  refine ev_tk (x := k) (z := 5) (t := 184) rfl rfl b1 (by decide) rfl rfl ?_
  refine ev_go 1 (pc1 := 185) (lv1 := [.ref 63, .ref 23, .int n, .int p, .int q, .ref 37, .int br, .int f, .int ((I 66 5) + 1), xmk, xmk]) (st1 := [.ref 63]) (h1 := (124, I, J, R)) rfl ?_
  refine ev_gf (c := 63) (t := 53) (X := R 63 2) rfl rfl (fun _ => rfl) rfl (hG 63 2 53 rfl rfl) ?_
  refine ev_go 5 (pc1 := 197) (lv1 := [.ref 63, .ref 23, .int n, .int p, .int q, .ref 37, .int br, .int f, .int ((I 66 5) + 1), xmk, xmk]) (st1 := [.ref 23, .int ((I 66 5) + 1), .int f, .int br, .ref 37, .ref 53]) (h1 := (124, I, J, R)) rfl ?_
  refine ev_gf (c := 23) (t := 36) (X := R 23 12) rfl rfl (fun _ => rfl) rfl (hG 23 12 36 rfl rfl) ?_
  refine ev_go 1 (pc1 := 201) (lv1 := [.ref 63, .ref 23, .int n, .int p, .int q, .ref 37, .int br, .int f, .int ((I 66 5) + 1), xmk, xmk]) (st1 := [.int n, .ref 36, .int ((I 66 5) + 1), .int f, .int br, .ref 37, .ref 53]) (h1 := (124, I, J, R)) rfl ?_
  refine ev_call (v1 := (some (.int b))) (h1 := (124, I, J, R)) rfl rfl c4 ?_
  refine ev_call (v1 := none) (h1 := (124, I1, J1, R)) rfl rfl c5 ?_
  refine ev_go 2 (pc1 := 211) (lv1 := [.ref 63, .ref 23, .int n, .int p, .int q, .ref 37, .int br, .int f, .int ((I 66 5) + 1), xmk, xmk]) (st1 := [.int f, .int q]) (h1 := (124, I1, J1, R)) rfl ?_
  refine ev_br (b1 := false) rfl rfl (xcd_neq (x := q) (y := f) (by first | exact b2 | omega)) ?_
  refine ev_go 1 (pc1 := 215) (lv1 := [.ref 63, .ref 23, .int n, .int p, .int q, .ref 37, .int br, .int f, .int ((I 66 5) + 1), xmk, xmk]) (st1 := [.ref 63]) (h1 := (124, I1, J1, R)) rfl ?_
  refine ev_gf (c := 63) (t := 53) (X := R 63 2) rfl rfl (fun _ => rfl) rfl (hG 63 2 53 rfl rfl) ?_
  refine ev_go 2 (pc1 := 221) (lv1 := [.ref 63, .ref 23, .int n, .int p, .int q, .ref 37, .int br, .int f, .int ((I 66 5) + 1), xmk, xmk]) (st1 := [.int p, .int q, .ref 53]) (h1 := (124, I1, J1, R)) rfl ?_
  refine ev_call (v1 := (some (.int o))) (h1 := (124, I1, J1, R)) rfl rfl c6 ?_
  refine ev_br (b1 := true) rfl rfl (xcd_le (x := o) (y := 0) (by rw [show ((0 : Int32)).toInt = 0 from by decide]; first | exact b3 | omega)) ?_
  refine ev_go 1 (pc1 := 232) (lv1 := [.ref 63, .ref 23, .int n, .int p, .int q, .ref 37, .int br, .int f, .int ((I 66 5) + 1), xmk, xmk]) (st1 := [.int 0]) (h1 := (124, I1, J1, R)) rfl ?_
  exact ev_ret rfl rfl
set_option maxRecDepth 20000 in
theorem ur_f {L : Nat} {xs : Nat → Int32} {d : Nat} {I : Nat → Nat → Int32} {J : Nat → Nat → Int64} {R : Nat → Nat → Nat} {n p q t : Int32} (hG : aGd R) (n1 : 0 ≤ n.toInt) (m1 : n.toInt < 8) (b1 : (I 97 n.toNatClampNeg).toInt = p.toInt) : xEv L xs d 229 0 [.ref 86, .int n, .int p, .int q, .int t] [] (124, I, J, R) (some (.int 0)) (124, I, J, R) := by
  refine ev_go 1 (pc1 := 1) (lv1 := [.ref 86, .int n, .int p, .int q, .int t]) (st1 := [.ref 86]) (h1 := (124, I, J, R)) rfl ?_
  refine ev_gf (c := 86) (t := 97) (X := R 86 21) rfl rfl (fun _ => rfl) rfl (hG 86 21 97 rfl rfl) ?_
  refine ev_go 1 (pc1 := 5) (lv1 := [.ref 86, .int n, .int p, .int q, .int t]) (st1 := [.int n, .ref 97]) (h1 := (124, I, J, R)) rfl ?_
  refine ev_ild (n := 8) rfl rfl (fun _ => rfl) n1 m1 ?_
  refine ev_go 1 (pc1 := 7) (lv1 := [.ref 86, .int n, .int p, .int q, .int t]) (st1 := [.int p, .int (I 97 n.toNatClampNeg)]) (h1 := (124, I, J, R)) rfl ?_
  refine ev_br (b1 := false) rfl rfl (xcd_nne (x := (I 97 n.toNatClampNeg)) (y := p) (by first | exact b1 | omega)) ?_
  refine ev_go 1 (pc1 := 11) (lv1 := [.ref 86, .int n, .int p, .int q, .int t]) (st1 := [.int 0]) (h1 := (124, I, J, R)) rfl ?_
  exact ev_ret rfl rfl
set_option maxRecDepth 20000 in
theorem ur_0 {L : Nat} {xs : Nat → Int32} {d : Nat} {I : Nat → Nat → Int32} {J : Nat → Nat → Int64} {R : Nat → Nat → Nat} {n p q t : Int32} (hG : aGd R) (n1 : 0 ≤ n.toInt) (m1 : n.toInt < 8) (b1 : (I 97 n.toNatClampNeg).toInt ≠ p.toInt) (n2 : 0 ≤ p.toInt) (m2 : p.toInt < 7) (b2 : (I 119 p.toNatClampNeg).toInt = 0) : xEv L xs d 229 0 [.ref 86, .int n, .int p, .int q, .int t] [] (124, I, J, R) (some (.int 0)) (124, I, J, R) := by
  refine ev_go 1 (pc1 := 1) (lv1 := [.ref 86, .int n, .int p, .int q, .int t]) (st1 := [.ref 86]) (h1 := (124, I, J, R)) rfl ?_
  refine ev_gf (c := 86) (t := 97) (X := R 86 21) rfl rfl (fun _ => rfl) rfl (hG 86 21 97 rfl rfl) ?_
  refine ev_go 1 (pc1 := 5) (lv1 := [.ref 86, .int n, .int p, .int q, .int t]) (st1 := [.int n, .ref 97]) (h1 := (124, I, J, R)) rfl ?_
  refine ev_ild (n := 8) rfl rfl (fun _ => rfl) n1 m1 ?_
  refine ev_go 1 (pc1 := 7) (lv1 := [.ref 86, .int n, .int p, .int q, .int t]) (st1 := [.int p, .int (I 97 n.toNatClampNeg)]) (h1 := (124, I, J, R)) rfl ?_
  refine ev_br (b1 := true) rfl rfl (xcd_ne (x := (I 97 n.toNatClampNeg)) (y := p) (by first | exact b1 | omega)) ?_
  refine ev_go 1 (pc1 := 13) (lv1 := [.ref 86, .int n, .int p, .int q, .int t]) (st1 := [.ref 86]) (h1 := (124, I, J, R)) rfl ?_
  refine ev_gf (c := 86) (t := 119) (X := R 86 54) rfl rfl (fun _ => rfl) rfl (hG 86 54 119 rfl rfl) ?_
  refine ev_go 1 (pc1 := 17) (lv1 := [.ref 86, .int n, .int p, .int q, .int t]) (st1 := [.int p, .ref 119]) (h1 := (124, I, J, R)) rfl ?_
  refine ev_ild (n := 7) rfl rfl (fun _ => rfl) n2 m2 ?_
  refine ev_tk (x := (I 119 p.toNatClampNeg)) (z := 0) (t := 52) rfl rfl b2 (by decide) rfl rfl ?_
  refine ev_go 1 (pc1 := 53) (lv1 := [.ref 86, .int n, .int p, .int q, .int t]) (st1 := [.int 0]) (h1 := (124, I, J, R)) rfl ?_
  exact ev_ret rfl rfl
set_option maxRecDepth 20000 in
theorem ur_1n {L : Nat} {xs : Nat → Int32} {d : Nat} {I : Nat → Nat → Int32} {J : Nat → Nat → Int64} {R : Nat → Nat → Nat} {n p q t : Int32} (hG : aGd R) (n1 : 0 ≤ n.toInt) (m1 : n.toInt < 8) (b1 : (I 97 n.toNatClampNeg).toInt ≠ p.toInt) (n2 : 0 ≤ p.toInt) (m2 : p.toInt < 7) (b2 : (I 119 p.toNatClampNeg).toInt = 1) (n3 : 0 ≤ p.toInt) (m3 : p.toInt < 7) (b3 : q.toInt ≠ (I 120 p.toNatClampNeg).toInt) : xEv L xs d 229 0 [.ref 86, .int n, .int p, .int q, .int t] [] (124, I, J, R) (some (.int 0)) (124, I, J, R) := by
  refine ev_go 1 (pc1 := 1) (lv1 := [.ref 86, .int n, .int p, .int q, .int t]) (st1 := [.ref 86]) (h1 := (124, I, J, R)) rfl ?_
  refine ev_gf (c := 86) (t := 97) (X := R 86 21) rfl rfl (fun _ => rfl) rfl (hG 86 21 97 rfl rfl) ?_
  refine ev_go 1 (pc1 := 5) (lv1 := [.ref 86, .int n, .int p, .int q, .int t]) (st1 := [.int n, .ref 97]) (h1 := (124, I, J, R)) rfl ?_
  refine ev_ild (n := 8) rfl rfl (fun _ => rfl) n1 m1 ?_
  refine ev_go 1 (pc1 := 7) (lv1 := [.ref 86, .int n, .int p, .int q, .int t]) (st1 := [.int p, .int (I 97 n.toNatClampNeg)]) (h1 := (124, I, J, R)) rfl ?_
  refine ev_br (b1 := true) rfl rfl (xcd_ne (x := (I 97 n.toNatClampNeg)) (y := p) (by first | exact b1 | omega)) ?_
  refine ev_go 1 (pc1 := 13) (lv1 := [.ref 86, .int n, .int p, .int q, .int t]) (st1 := [.ref 86]) (h1 := (124, I, J, R)) rfl ?_
  refine ev_gf (c := 86) (t := 119) (X := R 86 54) rfl rfl (fun _ => rfl) rfl (hG 86 54 119 rfl rfl) ?_
  refine ev_go 1 (pc1 := 17) (lv1 := [.ref 86, .int n, .int p, .int q, .int t]) (st1 := [.int p, .ref 119]) (h1 := (124, I, J, R)) rfl ?_
  refine ev_ild (n := 7) rfl rfl (fun _ => rfl) n2 m2 ?_
  refine ev_tk (x := (I 119 p.toNatClampNeg)) (z := 1) (t := 54) rfl rfl b2 (by decide) rfl rfl ?_
  refine ev_go 2 (pc1 := 56) (lv1 := [.ref 86, .int n, .int p, .int q, .int t]) (st1 := [.ref 86, .int q]) (h1 := (124, I, J, R)) rfl ?_
  refine ev_gf (c := 86) (t := 120) (X := R 86 55) rfl rfl (fun _ => rfl) rfl (hG 86 55 120 rfl rfl) ?_
  refine ev_go 1 (pc1 := 60) (lv1 := [.ref 86, .int n, .int p, .int q, .int t]) (st1 := [.int p, .ref 120, .int q]) (h1 := (124, I, J, R)) rfl ?_
  refine ev_ild (n := 7) rfl rfl (fun _ => rfl) n3 m3 ?_
  refine ev_br (b1 := true) rfl rfl (xcd_ne (x := q) (y := (I 120 p.toNatClampNeg)) (by first | exact b3 | omega)) ?_
  refine ev_go 1 (pc1 := 69) (lv1 := [.ref 86, .int n, .int p, .int q, .int t]) (st1 := [.int 0]) (h1 := (124, I, J, R)) rfl ?_
  exact ev_ret rfl rfl
set_option maxRecDepth 20000 in
theorem ur_1y {L : Nat} {xs : Nat → Int32} {d : Nat} {I : Nat → Nat → Int32} {J : Nat → Nat → Int64} {R : Nat → Nat → Nat} {n p q t : Int32} (hG : aGd R) (n1 : 0 ≤ n.toInt) (m1 : n.toInt < 8) (b1 : (I 97 n.toNatClampNeg).toInt ≠ p.toInt) (n2 : 0 ≤ p.toInt) (m2 : p.toInt < 7) (b2 : (I 119 p.toNatClampNeg).toInt = 1) (n3 : 0 ≤ p.toInt) (m3 : p.toInt < 7) (b3 : q.toInt = (I 120 p.toNatClampNeg).toInt) : xEv L xs d 229 0 [.ref 86, .int n, .int p, .int q, .int t] [] (124, I, J, R) (some (.int 1)) (124, I, J, R) := by
  refine ev_go 1 (pc1 := 1) (lv1 := [.ref 86, .int n, .int p, .int q, .int t]) (st1 := [.ref 86]) (h1 := (124, I, J, R)) rfl ?_
  refine ev_gf (c := 86) (t := 97) (X := R 86 21) rfl rfl (fun _ => rfl) rfl (hG 86 21 97 rfl rfl) ?_
  refine ev_go 1 (pc1 := 5) (lv1 := [.ref 86, .int n, .int p, .int q, .int t]) (st1 := [.int n, .ref 97]) (h1 := (124, I, J, R)) rfl ?_
  refine ev_ild (n := 8) rfl rfl (fun _ => rfl) n1 m1 ?_
  refine ev_go 1 (pc1 := 7) (lv1 := [.ref 86, .int n, .int p, .int q, .int t]) (st1 := [.int p, .int (I 97 n.toNatClampNeg)]) (h1 := (124, I, J, R)) rfl ?_
  refine ev_br (b1 := true) rfl rfl (xcd_ne (x := (I 97 n.toNatClampNeg)) (y := p) (by first | exact b1 | omega)) ?_
  refine ev_go 1 (pc1 := 13) (lv1 := [.ref 86, .int n, .int p, .int q, .int t]) (st1 := [.ref 86]) (h1 := (124, I, J, R)) rfl ?_
  refine ev_gf (c := 86) (t := 119) (X := R 86 54) rfl rfl (fun _ => rfl) rfl (hG 86 54 119 rfl rfl) ?_
  refine ev_go 1 (pc1 := 17) (lv1 := [.ref 86, .int n, .int p, .int q, .int t]) (st1 := [.int p, .ref 119]) (h1 := (124, I, J, R)) rfl ?_
  refine ev_ild (n := 7) rfl rfl (fun _ => rfl) n2 m2 ?_
  refine ev_tk (x := (I 119 p.toNatClampNeg)) (z := 1) (t := 54) rfl rfl b2 (by decide) rfl rfl ?_
  refine ev_go 2 (pc1 := 56) (lv1 := [.ref 86, .int n, .int p, .int q, .int t]) (st1 := [.ref 86, .int q]) (h1 := (124, I, J, R)) rfl ?_
  refine ev_gf (c := 86) (t := 120) (X := R 86 55) rfl rfl (fun _ => rfl) rfl (hG 86 55 120 rfl rfl) ?_
  refine ev_go 1 (pc1 := 60) (lv1 := [.ref 86, .int n, .int p, .int q, .int t]) (st1 := [.int p, .ref 120, .int q]) (h1 := (124, I, J, R)) rfl ?_
  refine ev_ild (n := 7) rfl rfl (fun _ => rfl) n3 m3 ?_
  refine ev_br (b1 := false) rfl rfl (xcd_nne (x := q) (y := (I 120 p.toNatClampNeg)) (by first | exact b3 | omega)) ?_
  refine ev_go 2 (pc1 := 69) (lv1 := [.ref 86, .int n, .int p, .int q, .int t]) (st1 := [.int 1]) (h1 := (124, I, J, R)) rfl ?_
  exact ev_ret rfl rfl
set_option maxRecDepth 20000 in
theorem ur_2a {L : Nat} {xs : Nat → Int32} {d : Nat} {I : Nat → Nat → Int32} {J : Nat → Nat → Int64} {R : Nat → Nat → Nat} {n p q t : Int32} (hG : aGd R) (n1 : 0 ≤ n.toInt) (m1 : n.toInt < 8) (b1 : (I 97 n.toNatClampNeg).toInt ≠ p.toInt) (n2 : 0 ≤ p.toInt) (m2 : p.toInt < 7) (b2 : (I 119 p.toNatClampNeg).toInt = 2) (n3 : 0 ≤ n.toInt) (m3 : n.toInt < 8) (b3 : q.toInt = (I 97 n.toNatClampNeg).toInt) : xEv L xs d 229 0 [.ref 86, .int n, .int p, .int q, .int t] [] (124, I, J, R) (some (.int 1)) (124, I, J, R) := by
  refine ev_go 1 (pc1 := 1) (lv1 := [.ref 86, .int n, .int p, .int q, .int t]) (st1 := [.ref 86]) (h1 := (124, I, J, R)) rfl ?_
  refine ev_gf (c := 86) (t := 97) (X := R 86 21) rfl rfl (fun _ => rfl) rfl (hG 86 21 97 rfl rfl) ?_
  refine ev_go 1 (pc1 := 5) (lv1 := [.ref 86, .int n, .int p, .int q, .int t]) (st1 := [.int n, .ref 97]) (h1 := (124, I, J, R)) rfl ?_
  refine ev_ild (n := 8) rfl rfl (fun _ => rfl) n1 m1 ?_
  refine ev_go 1 (pc1 := 7) (lv1 := [.ref 86, .int n, .int p, .int q, .int t]) (st1 := [.int p, .int (I 97 n.toNatClampNeg)]) (h1 := (124, I, J, R)) rfl ?_
  refine ev_br (b1 := true) rfl rfl (xcd_ne (x := (I 97 n.toNatClampNeg)) (y := p) (by first | exact b1 | omega)) ?_
  refine ev_go 1 (pc1 := 13) (lv1 := [.ref 86, .int n, .int p, .int q, .int t]) (st1 := [.ref 86]) (h1 := (124, I, J, R)) rfl ?_
  refine ev_gf (c := 86) (t := 119) (X := R 86 54) rfl rfl (fun _ => rfl) rfl (hG 86 54 119 rfl rfl) ?_
  refine ev_go 1 (pc1 := 17) (lv1 := [.ref 86, .int n, .int p, .int q, .int t]) (st1 := [.int p, .ref 119]) (h1 := (124, I, J, R)) rfl ?_
  refine ev_ild (n := 7) rfl rfl (fun _ => rfl) n2 m2 ?_
  refine ev_tk (x := (I 119 p.toNatClampNeg)) (z := 2) (t := 70) rfl rfl b2 (by decide) rfl rfl ?_
  refine ev_go 2 (pc1 := 72) (lv1 := [.ref 86, .int n, .int p, .int q, .int t]) (st1 := [.ref 86, .int q]) (h1 := (124, I, J, R)) rfl ?_
  refine ev_gf (c := 86) (t := 97) (X := R 86 21) rfl rfl (fun _ => rfl) rfl (hG 86 21 97 rfl rfl) ?_
  refine ev_go 1 (pc1 := 76) (lv1 := [.ref 86, .int n, .int p, .int q, .int t]) (st1 := [.int n, .ref 97, .int q]) (h1 := (124, I, J, R)) rfl ?_
  refine ev_ild (n := 8) rfl rfl (fun _ => rfl) n3 m3 ?_
  refine ev_br (b1 := true) rfl rfl (xcd_eq (x := q) (y := (I 97 n.toNatClampNeg)) (by first | exact b3 | omega)) ?_
  refine ev_go 2 (pc1 := 130) (lv1 := [.ref 86, .int n, .int p, .int q, .int t]) (st1 := [.int 1]) (h1 := (124, I, J, R)) rfl ?_
  exact ev_ret rfl rfl
set_option maxRecDepth 20000 in
theorem ur_2n {L : Nat} {xs : Nat → Int32} {d : Nat} {I : Nat → Nat → Int32} {J : Nat → Nat → Int64} {R : Nat → Nat → Nat} {n p q t x y : Int32} (hG : aGd R) (n1 : 0 ≤ n.toInt) (m1 : n.toInt < 8) (b1 : (I 97 n.toNatClampNeg).toInt ≠ p.toInt) (n2 : 0 ≤ p.toInt) (m2 : p.toInt < 7) (b2 : (I 119 p.toNatClampNeg).toInt = 2) (n3 : 0 ≤ n.toInt) (m3 : n.toInt < 8) (b3 : q.toInt ≠ (I 97 n.toNatClampNeg).toInt) (n4 : 0 ≤ n.toInt) (m4 : n.toInt < 8) (n5 : 0 ≤ n.toInt) (m5 : n.toInt < 8) (c1 : xEv L xs d 185 0 [.ref 86, .int (I 100 n.toNatClampNeg), .int q, .int (I 97 n.toNatClampNeg), .int (t + 1), xmk, xmk, xmk, xmk, xmk] [] (124, I, J, R) (some (.int x)) (124, I, J, R)) (n6 : 0 ≤ n.toInt) (m6 : n.toInt < 8) (n7 : 0 ≤ n.toInt) (m7 : n.toInt < 8) (c2 : xEv L xs d 185 0 [.ref 86, .int (I 100 n.toNatClampNeg), .int p, .int (I 97 n.toNatClampNeg), .int (t + 1), xmk, xmk, xmk, xmk, xmk] [] (124, I, J, R) (some (.int y)) (124, I, J, R)) (b4 : x.toInt ≥ y.toInt) : xEv L xs (d + 1) 229 0 [.ref 86, .int n, .int p, .int q, .int t] [] (124, I, J, R) (some (.int 0)) (124, I, J, R) := by
  refine ev_go 1 (pc1 := 1) (lv1 := [.ref 86, .int n, .int p, .int q, .int t]) (st1 := [.ref 86]) (h1 := (124, I, J, R)) rfl ?_
  refine ev_gf (c := 86) (t := 97) (X := R 86 21) rfl rfl (fun _ => rfl) rfl (hG 86 21 97 rfl rfl) ?_
  refine ev_go 1 (pc1 := 5) (lv1 := [.ref 86, .int n, .int p, .int q, .int t]) (st1 := [.int n, .ref 97]) (h1 := (124, I, J, R)) rfl ?_
  refine ev_ild (n := 8) rfl rfl (fun _ => rfl) n1 m1 ?_
  refine ev_go 1 (pc1 := 7) (lv1 := [.ref 86, .int n, .int p, .int q, .int t]) (st1 := [.int p, .int (I 97 n.toNatClampNeg)]) (h1 := (124, I, J, R)) rfl ?_
  refine ev_br (b1 := true) rfl rfl (xcd_ne (x := (I 97 n.toNatClampNeg)) (y := p) (by first | exact b1 | omega)) ?_
  refine ev_go 1 (pc1 := 13) (lv1 := [.ref 86, .int n, .int p, .int q, .int t]) (st1 := [.ref 86]) (h1 := (124, I, J, R)) rfl ?_
  refine ev_gf (c := 86) (t := 119) (X := R 86 54) rfl rfl (fun _ => rfl) rfl (hG 86 54 119 rfl rfl) ?_
  refine ev_go 1 (pc1 := 17) (lv1 := [.ref 86, .int n, .int p, .int q, .int t]) (st1 := [.int p, .ref 119]) (h1 := (124, I, J, R)) rfl ?_
  refine ev_ild (n := 7) rfl rfl (fun _ => rfl) n2 m2 ?_
  refine ev_tk (x := (I 119 p.toNatClampNeg)) (z := 2) (t := 70) rfl rfl b2 (by decide) rfl rfl ?_
  refine ev_go 2 (pc1 := 72) (lv1 := [.ref 86, .int n, .int p, .int q, .int t]) (st1 := [.ref 86, .int q]) (h1 := (124, I, J, R)) rfl ?_
  refine ev_gf (c := 86) (t := 97) (X := R 86 21) rfl rfl (fun _ => rfl) rfl (hG 86 21 97 rfl rfl) ?_
  refine ev_go 1 (pc1 := 76) (lv1 := [.ref 86, .int n, .int p, .int q, .int t]) (st1 := [.int n, .ref 97, .int q]) (h1 := (124, I, J, R)) rfl ?_
  refine ev_ild (n := 8) rfl rfl (fun _ => rfl) n3 m3 ?_
  refine ev_br (b1 := false) rfl rfl (xcd_neq (x := q) (y := (I 97 n.toNatClampNeg)) (by first | exact b3 | omega)) ?_
  refine ev_go 2 (pc1 := 82) (lv1 := [.ref 86, .int n, .int p, .int q, .int t]) (st1 := [.ref 86, .ref 86]) (h1 := (124, I, J, R)) rfl ?_
  refine ev_gf (c := 86) (t := 100) (X := R 86 24) rfl rfl (fun _ => rfl) rfl (hG 86 24 100 rfl rfl) ?_
  refine ev_go 1 (pc1 := 86) (lv1 := [.ref 86, .int n, .int p, .int q, .int t]) (st1 := [.int n, .ref 100, .ref 86]) (h1 := (124, I, J, R)) rfl ?_
  refine ev_ild (n := 8) rfl rfl (fun _ => rfl) n4 m4 ?_
  refine ev_go 2 (pc1 := 89) (lv1 := [.ref 86, .int n, .int p, .int q, .int t]) (st1 := [.ref 86, .int q, .int (I 100 n.toNatClampNeg), .ref 86]) (h1 := (124, I, J, R)) rfl ?_
  refine ev_gf (c := 86) (t := 97) (X := R 86 21) rfl rfl (fun _ => rfl) rfl (hG 86 21 97 rfl rfl) ?_
  refine ev_go 1 (pc1 := 93) (lv1 := [.ref 86, .int n, .int p, .int q, .int t]) (st1 := [.int n, .ref 97, .int q, .int (I 100 n.toNatClampNeg), .ref 86]) (h1 := (124, I, J, R)) rfl ?_
  refine ev_ild (n := 8) rfl rfl (fun _ => rfl) n5 m5 ?_
  refine ev_go 3 (pc1 := 98) (lv1 := [.ref 86, .int n, .int p, .int q, .int t]) (st1 := [.int (t + 1), .int (I 97 n.toNatClampNeg), .int q, .int (I 100 n.toNatClampNeg), .ref 86]) (h1 := (124, I, J, R)) rfl ?_
  refine ev_call (v1 := (some (.int x))) (h1 := (124, I, J, R)) rfl rfl c1 ?_
  refine ev_go 2 (pc1 := 103) (lv1 := [.ref 86, .int n, .int p, .int q, .int t]) (st1 := [.ref 86, .ref 86, .int x]) (h1 := (124, I, J, R)) rfl ?_
  refine ev_gf (c := 86) (t := 100) (X := R 86 24) rfl rfl (fun _ => rfl) rfl (hG 86 24 100 rfl rfl) ?_
  refine ev_go 1 (pc1 := 107) (lv1 := [.ref 86, .int n, .int p, .int q, .int t]) (st1 := [.int n, .ref 100, .ref 86, .int x]) (h1 := (124, I, J, R)) rfl ?_
  refine ev_ild (n := 8) rfl rfl (fun _ => rfl) n6 m6 ?_
  refine ev_go 2 (pc1 := 110) (lv1 := [.ref 86, .int n, .int p, .int q, .int t]) (st1 := [.ref 86, .int p, .int (I 100 n.toNatClampNeg), .ref 86, .int x]) (h1 := (124, I, J, R)) rfl ?_
  refine ev_gf (c := 86) (t := 97) (X := R 86 21) rfl rfl (fun _ => rfl) rfl (hG 86 21 97 rfl rfl) ?_
  refine ev_go 1 (pc1 := 114) (lv1 := [.ref 86, .int n, .int p, .int q, .int t]) (st1 := [.int n, .ref 97, .int p, .int (I 100 n.toNatClampNeg), .ref 86, .int x]) (h1 := (124, I, J, R)) rfl ?_
  refine ev_ild (n := 8) rfl rfl (fun _ => rfl) n7 m7 ?_
  refine ev_go 3 (pc1 := 119) (lv1 := [.ref 86, .int n, .int p, .int q, .int t]) (st1 := [.int (t + 1), .int (I 97 n.toNatClampNeg), .int p, .int (I 100 n.toNatClampNeg), .ref 86, .int x]) (h1 := (124, I, J, R)) rfl ?_
  refine ev_call (v1 := (some (.int y))) (h1 := (124, I, J, R)) rfl rfl c2 ?_
  refine ev_br (b1 := true) rfl rfl (xcd_ge (x := x) (y := y) (by first | exact b4 | omega)) ?_
  refine ev_go 1 (pc1 := 130) (lv1 := [.ref 86, .int n, .int p, .int q, .int t]) (st1 := [.int 0]) (h1 := (124, I, J, R)) rfl ?_
  exact ev_ret rfl rfl
set_option maxRecDepth 20000 in
theorem ur_2y {L : Nat} {xs : Nat → Int32} {d : Nat} {I : Nat → Nat → Int32} {J : Nat → Nat → Int64} {R : Nat → Nat → Nat} {n p q t x y : Int32} (hG : aGd R) (n1 : 0 ≤ n.toInt) (m1 : n.toInt < 8) (b1 : (I 97 n.toNatClampNeg).toInt ≠ p.toInt) (n2 : 0 ≤ p.toInt) (m2 : p.toInt < 7) (b2 : (I 119 p.toNatClampNeg).toInt = 2) (n3 : 0 ≤ n.toInt) (m3 : n.toInt < 8) (b3 : q.toInt ≠ (I 97 n.toNatClampNeg).toInt) (n4 : 0 ≤ n.toInt) (m4 : n.toInt < 8) (n5 : 0 ≤ n.toInt) (m5 : n.toInt < 8) (c1 : xEv L xs d 185 0 [.ref 86, .int (I 100 n.toNatClampNeg), .int q, .int (I 97 n.toNatClampNeg), .int (t + 1), xmk, xmk, xmk, xmk, xmk] [] (124, I, J, R) (some (.int x)) (124, I, J, R)) (n6 : 0 ≤ n.toInt) (m6 : n.toInt < 8) (n7 : 0 ≤ n.toInt) (m7 : n.toInt < 8) (c2 : xEv L xs d 185 0 [.ref 86, .int (I 100 n.toNatClampNeg), .int p, .int (I 97 n.toNatClampNeg), .int (t + 1), xmk, xmk, xmk, xmk, xmk] [] (124, I, J, R) (some (.int y)) (124, I, J, R)) (b4 : x.toInt < y.toInt) : xEv L xs (d + 1) 229 0 [.ref 86, .int n, .int p, .int q, .int t] [] (124, I, J, R) (some (.int 1)) (124, I, J, R) := by
  refine ev_go 1 (pc1 := 1) (lv1 := [.ref 86, .int n, .int p, .int q, .int t]) (st1 := [.ref 86]) (h1 := (124, I, J, R)) rfl ?_
  refine ev_gf (c := 86) (t := 97) (X := R 86 21) rfl rfl (fun _ => rfl) rfl (hG 86 21 97 rfl rfl) ?_
  refine ev_go 1 (pc1 := 5) (lv1 := [.ref 86, .int n, .int p, .int q, .int t]) (st1 := [.int n, .ref 97]) (h1 := (124, I, J, R)) rfl ?_
  refine ev_ild (n := 8) rfl rfl (fun _ => rfl) n1 m1 ?_
  refine ev_go 1 (pc1 := 7) (lv1 := [.ref 86, .int n, .int p, .int q, .int t]) (st1 := [.int p, .int (I 97 n.toNatClampNeg)]) (h1 := (124, I, J, R)) rfl ?_
  refine ev_br (b1 := true) rfl rfl (xcd_ne (x := (I 97 n.toNatClampNeg)) (y := p) (by first | exact b1 | omega)) ?_
  refine ev_go 1 (pc1 := 13) (lv1 := [.ref 86, .int n, .int p, .int q, .int t]) (st1 := [.ref 86]) (h1 := (124, I, J, R)) rfl ?_
  refine ev_gf (c := 86) (t := 119) (X := R 86 54) rfl rfl (fun _ => rfl) rfl (hG 86 54 119 rfl rfl) ?_
  refine ev_go 1 (pc1 := 17) (lv1 := [.ref 86, .int n, .int p, .int q, .int t]) (st1 := [.int p, .ref 119]) (h1 := (124, I, J, R)) rfl ?_
  refine ev_ild (n := 7) rfl rfl (fun _ => rfl) n2 m2 ?_
  refine ev_tk (x := (I 119 p.toNatClampNeg)) (z := 2) (t := 70) rfl rfl b2 (by decide) rfl rfl ?_
  refine ev_go 2 (pc1 := 72) (lv1 := [.ref 86, .int n, .int p, .int q, .int t]) (st1 := [.ref 86, .int q]) (h1 := (124, I, J, R)) rfl ?_
  refine ev_gf (c := 86) (t := 97) (X := R 86 21) rfl rfl (fun _ => rfl) rfl (hG 86 21 97 rfl rfl) ?_
  refine ev_go 1 (pc1 := 76) (lv1 := [.ref 86, .int n, .int p, .int q, .int t]) (st1 := [.int n, .ref 97, .int q]) (h1 := (124, I, J, R)) rfl ?_
  refine ev_ild (n := 8) rfl rfl (fun _ => rfl) n3 m3 ?_
  refine ev_br (b1 := false) rfl rfl (xcd_neq (x := q) (y := (I 97 n.toNatClampNeg)) (by first | exact b3 | omega)) ?_
  refine ev_go 2 (pc1 := 82) (lv1 := [.ref 86, .int n, .int p, .int q, .int t]) (st1 := [.ref 86, .ref 86]) (h1 := (124, I, J, R)) rfl ?_
  refine ev_gf (c := 86) (t := 100) (X := R 86 24) rfl rfl (fun _ => rfl) rfl (hG 86 24 100 rfl rfl) ?_
  refine ev_go 1 (pc1 := 86) (lv1 := [.ref 86, .int n, .int p, .int q, .int t]) (st1 := [.int n, .ref 100, .ref 86]) (h1 := (124, I, J, R)) rfl ?_
  refine ev_ild (n := 8) rfl rfl (fun _ => rfl) n4 m4 ?_
  refine ev_go 2 (pc1 := 89) (lv1 := [.ref 86, .int n, .int p, .int q, .int t]) (st1 := [.ref 86, .int q, .int (I 100 n.toNatClampNeg), .ref 86]) (h1 := (124, I, J, R)) rfl ?_
  refine ev_gf (c := 86) (t := 97) (X := R 86 21) rfl rfl (fun _ => rfl) rfl (hG 86 21 97 rfl rfl) ?_
  refine ev_go 1 (pc1 := 93) (lv1 := [.ref 86, .int n, .int p, .int q, .int t]) (st1 := [.int n, .ref 97, .int q, .int (I 100 n.toNatClampNeg), .ref 86]) (h1 := (124, I, J, R)) rfl ?_
  refine ev_ild (n := 8) rfl rfl (fun _ => rfl) n5 m5 ?_
  refine ev_go 3 (pc1 := 98) (lv1 := [.ref 86, .int n, .int p, .int q, .int t]) (st1 := [.int (t + 1), .int (I 97 n.toNatClampNeg), .int q, .int (I 100 n.toNatClampNeg), .ref 86]) (h1 := (124, I, J, R)) rfl ?_
  refine ev_call (v1 := (some (.int x))) (h1 := (124, I, J, R)) rfl rfl c1 ?_
  refine ev_go 2 (pc1 := 103) (lv1 := [.ref 86, .int n, .int p, .int q, .int t]) (st1 := [.ref 86, .ref 86, .int x]) (h1 := (124, I, J, R)) rfl ?_
  refine ev_gf (c := 86) (t := 100) (X := R 86 24) rfl rfl (fun _ => rfl) rfl (hG 86 24 100 rfl rfl) ?_
  refine ev_go 1 (pc1 := 107) (lv1 := [.ref 86, .int n, .int p, .int q, .int t]) (st1 := [.int n, .ref 100, .ref 86, .int x]) (h1 := (124, I, J, R)) rfl ?_
  refine ev_ild (n := 8) rfl rfl (fun _ => rfl) n6 m6 ?_
  refine ev_go 2 (pc1 := 110) (lv1 := [.ref 86, .int n, .int p, .int q, .int t]) (st1 := [.ref 86, .int p, .int (I 100 n.toNatClampNeg), .ref 86, .int x]) (h1 := (124, I, J, R)) rfl ?_
  refine ev_gf (c := 86) (t := 97) (X := R 86 21) rfl rfl (fun _ => rfl) rfl (hG 86 21 97 rfl rfl) ?_
  refine ev_go 1 (pc1 := 114) (lv1 := [.ref 86, .int n, .int p, .int q, .int t]) (st1 := [.int n, .ref 97, .int p, .int (I 100 n.toNatClampNeg), .ref 86, .int x]) (h1 := (124, I, J, R)) rfl ?_
  refine ev_ild (n := 8) rfl rfl (fun _ => rfl) n7 m7 ?_
  refine ev_go 3 (pc1 := 119) (lv1 := [.ref 86, .int n, .int p, .int q, .int t]) (st1 := [.int (t + 1), .int (I 97 n.toNatClampNeg), .int p, .int (I 100 n.toNatClampNeg), .ref 86, .int x]) (h1 := (124, I, J, R)) rfl ?_
  refine ev_call (v1 := (some (.int y))) (h1 := (124, I, J, R)) rfl rfl c2 ?_
  refine ev_br (b1 := false) rfl rfl (xcd_nge (x := x) (y := y) (by first | exact b4 | omega)) ?_
  refine ev_go 2 (pc1 := 130) (lv1 := [.ref 86, .int n, .int p, .int q, .int t]) (st1 := [.int 1]) (h1 := (124, I, J, R)) rfl ?_
  exact ev_ret rfl rfl
set_option maxRecDepth 20000 in
theorem ur_3 {L : Nat} {xs : Nat → Int32} {d : Nat} {I : Nat → Nat → Int32} {J : Nat → Nat → Int64} {R : Nat → Nat → Nat} {n p q t : Int32} (hG : aGd R) (n1 : 0 ≤ n.toInt) (m1 : n.toInt < 8) (b1 : (I 97 n.toNatClampNeg).toInt ≠ p.toInt) (n2 : 0 ≤ p.toInt) (m2 : p.toInt < 7) (b2 : (I 119 p.toNatClampNeg).toInt = 3) : xEv L xs d 229 0 [.ref 86, .int n, .int p, .int q, .int t] [] (124, I, J, R) (some (.int 1)) (124, I, J, R) := by
  refine ev_go 1 (pc1 := 1) (lv1 := [.ref 86, .int n, .int p, .int q, .int t]) (st1 := [.ref 86]) (h1 := (124, I, J, R)) rfl ?_
  refine ev_gf (c := 86) (t := 97) (X := R 86 21) rfl rfl (fun _ => rfl) rfl (hG 86 21 97 rfl rfl) ?_
  refine ev_go 1 (pc1 := 5) (lv1 := [.ref 86, .int n, .int p, .int q, .int t]) (st1 := [.int n, .ref 97]) (h1 := (124, I, J, R)) rfl ?_
  refine ev_ild (n := 8) rfl rfl (fun _ => rfl) n1 m1 ?_
  refine ev_go 1 (pc1 := 7) (lv1 := [.ref 86, .int n, .int p, .int q, .int t]) (st1 := [.int p, .int (I 97 n.toNatClampNeg)]) (h1 := (124, I, J, R)) rfl ?_
  refine ev_br (b1 := true) rfl rfl (xcd_ne (x := (I 97 n.toNatClampNeg)) (y := p) (by first | exact b1 | omega)) ?_
  refine ev_go 1 (pc1 := 13) (lv1 := [.ref 86, .int n, .int p, .int q, .int t]) (st1 := [.ref 86]) (h1 := (124, I, J, R)) rfl ?_
  refine ev_gf (c := 86) (t := 119) (X := R 86 54) rfl rfl (fun _ => rfl) rfl (hG 86 54 119 rfl rfl) ?_
  refine ev_go 1 (pc1 := 17) (lv1 := [.ref 86, .int n, .int p, .int q, .int t]) (st1 := [.int p, .ref 119]) (h1 := (124, I, J, R)) rfl ?_
  refine ev_ild (n := 7) rfl rfl (fun _ => rfl) n2 m2 ?_
  refine ev_tk (x := (I 119 p.toNatClampNeg)) (z := 3) (t := 131) rfl rfl b2 (by decide) rfl rfl ?_
  refine ev_go 1 (pc1 := 132) (lv1 := [.ref 86, .int n, .int p, .int q, .int t]) (st1 := [.int 1]) (h1 := (124, I, J, R)) rfl ?_
  exact ev_ret rfl rfl
set_option maxRecDepth 20000 in
theorem ur_4n {L : Nat} {xs : Nat → Int32} {d : Nat} {I : Nat → Nat → Int32} {J : Nat → Nat → Int64} {R : Nat → Nat → Nat} {n p q t : Int32} (hG : aGd R) (n1 : 0 ≤ n.toInt) (m1 : n.toInt < 8) (b1 : (I 97 n.toNatClampNeg).toInt ≠ p.toInt) (n2 : 0 ≤ p.toInt) (m2 : p.toInt < 7) (b2 : (I 119 p.toNatClampNeg).toInt = 4) (n3 : 0 ≤ (21 + n).toInt) (m3 : (21 + n).toInt < 100) (b3 : q.toInt ≠ (I 121 (21 + n).toNatClampNeg).toInt) : xEv L xs d 229 0 [.ref 86, .int n, .int p, .int q, .int t] [] (124, I, J, R) (some (.int 0)) (124, I, J, R) := by
  refine ev_go 1 (pc1 := 1) (lv1 := [.ref 86, .int n, .int p, .int q, .int t]) (st1 := [.ref 86]) (h1 := (124, I, J, R)) rfl ?_
  refine ev_gf (c := 86) (t := 97) (X := R 86 21) rfl rfl (fun _ => rfl) rfl (hG 86 21 97 rfl rfl) ?_
  refine ev_go 1 (pc1 := 5) (lv1 := [.ref 86, .int n, .int p, .int q, .int t]) (st1 := [.int n, .ref 97]) (h1 := (124, I, J, R)) rfl ?_
  refine ev_ild (n := 8) rfl rfl (fun _ => rfl) n1 m1 ?_
  refine ev_go 1 (pc1 := 7) (lv1 := [.ref 86, .int n, .int p, .int q, .int t]) (st1 := [.int p, .int (I 97 n.toNatClampNeg)]) (h1 := (124, I, J, R)) rfl ?_
  refine ev_br (b1 := true) rfl rfl (xcd_ne (x := (I 97 n.toNatClampNeg)) (y := p) (by first | exact b1 | omega)) ?_
  refine ev_go 1 (pc1 := 13) (lv1 := [.ref 86, .int n, .int p, .int q, .int t]) (st1 := [.ref 86]) (h1 := (124, I, J, R)) rfl ?_
  refine ev_gf (c := 86) (t := 119) (X := R 86 54) rfl rfl (fun _ => rfl) rfl (hG 86 54 119 rfl rfl) ?_
  refine ev_go 1 (pc1 := 17) (lv1 := [.ref 86, .int n, .int p, .int q, .int t]) (st1 := [.int p, .ref 119]) (h1 := (124, I, J, R)) rfl ?_
  refine ev_ild (n := 7) rfl rfl (fun _ => rfl) n2 m2 ?_
  refine ev_tk (x := (I 119 p.toNatClampNeg)) (z := 4) (t := 133) rfl rfl b2 (by decide) rfl rfl ?_
  refine ev_go 2 (pc1 := 135) (lv1 := [.ref 86, .int n, .int p, .int q, .int t]) (st1 := [.ref 86, .int q]) (h1 := (124, I, J, R)) rfl ?_
  refine ev_gf (c := 86) (t := 121) (X := R 86 56) rfl rfl (fun _ => rfl) rfl (hG 86 56 121 rfl rfl) ?_
  refine ev_go 3 (pc1 := 142) (lv1 := [.ref 86, .int n, .int p, .int q, .int t]) (st1 := [.int (21 + n), .ref 121, .int q]) (h1 := (124, I, J, R)) rfl ?_
  refine ev_ild (n := 100) rfl rfl (fun _ => rfl) n3 m3 ?_
  refine ev_br (b1 := true) rfl rfl (xcd_ne (x := q) (y := (I 121 (21 + n).toNatClampNeg)) (by first | exact b3 | omega)) ?_
  refine ev_go 1 (pc1 := 151) (lv1 := [.ref 86, .int n, .int p, .int q, .int t]) (st1 := [.int 0]) (h1 := (124, I, J, R)) rfl ?_
  exact ev_ret rfl rfl
set_option maxRecDepth 20000 in
theorem ur_4y {L : Nat} {xs : Nat → Int32} {d : Nat} {I : Nat → Nat → Int32} {J : Nat → Nat → Int64} {R : Nat → Nat → Nat} {n p q t : Int32} (hG : aGd R) (n1 : 0 ≤ n.toInt) (m1 : n.toInt < 8) (b1 : (I 97 n.toNatClampNeg).toInt ≠ p.toInt) (n2 : 0 ≤ p.toInt) (m2 : p.toInt < 7) (b2 : (I 119 p.toNatClampNeg).toInt = 4) (n3 : 0 ≤ (21 + n).toInt) (m3 : (21 + n).toInt < 100) (b3 : q.toInt = (I 121 (21 + n).toNatClampNeg).toInt) : xEv L xs d 229 0 [.ref 86, .int n, .int p, .int q, .int t] [] (124, I, J, R) (some (.int 1)) (124, I, J, R) := by
  refine ev_go 1 (pc1 := 1) (lv1 := [.ref 86, .int n, .int p, .int q, .int t]) (st1 := [.ref 86]) (h1 := (124, I, J, R)) rfl ?_
  refine ev_gf (c := 86) (t := 97) (X := R 86 21) rfl rfl (fun _ => rfl) rfl (hG 86 21 97 rfl rfl) ?_
  refine ev_go 1 (pc1 := 5) (lv1 := [.ref 86, .int n, .int p, .int q, .int t]) (st1 := [.int n, .ref 97]) (h1 := (124, I, J, R)) rfl ?_
  refine ev_ild (n := 8) rfl rfl (fun _ => rfl) n1 m1 ?_
  refine ev_go 1 (pc1 := 7) (lv1 := [.ref 86, .int n, .int p, .int q, .int t]) (st1 := [.int p, .int (I 97 n.toNatClampNeg)]) (h1 := (124, I, J, R)) rfl ?_
  refine ev_br (b1 := true) rfl rfl (xcd_ne (x := (I 97 n.toNatClampNeg)) (y := p) (by first | exact b1 | omega)) ?_
  refine ev_go 1 (pc1 := 13) (lv1 := [.ref 86, .int n, .int p, .int q, .int t]) (st1 := [.ref 86]) (h1 := (124, I, J, R)) rfl ?_
  refine ev_gf (c := 86) (t := 119) (X := R 86 54) rfl rfl (fun _ => rfl) rfl (hG 86 54 119 rfl rfl) ?_
  refine ev_go 1 (pc1 := 17) (lv1 := [.ref 86, .int n, .int p, .int q, .int t]) (st1 := [.int p, .ref 119]) (h1 := (124, I, J, R)) rfl ?_
  refine ev_ild (n := 7) rfl rfl (fun _ => rfl) n2 m2 ?_
  refine ev_tk (x := (I 119 p.toNatClampNeg)) (z := 4) (t := 133) rfl rfl b2 (by decide) rfl rfl ?_
  refine ev_go 2 (pc1 := 135) (lv1 := [.ref 86, .int n, .int p, .int q, .int t]) (st1 := [.ref 86, .int q]) (h1 := (124, I, J, R)) rfl ?_
  refine ev_gf (c := 86) (t := 121) (X := R 86 56) rfl rfl (fun _ => rfl) rfl (hG 86 56 121 rfl rfl) ?_
  refine ev_go 3 (pc1 := 142) (lv1 := [.ref 86, .int n, .int p, .int q, .int t]) (st1 := [.int (21 + n), .ref 121, .int q]) (h1 := (124, I, J, R)) rfl ?_
  refine ev_ild (n := 100) rfl rfl (fun _ => rfl) n3 m3 ?_
  refine ev_br (b1 := false) rfl rfl (xcd_nne (x := q) (y := (I 121 (21 + n).toNatClampNeg)) (by first | exact b3 | omega)) ?_
  refine ev_go 2 (pc1 := 151) (lv1 := [.ref 86, .int n, .int p, .int q, .int t]) (st1 := [.int 1]) (h1 := (124, I, J, R)) rfl ?_
  exact ev_ret rfl rfl
set_option maxRecDepth 20000 in
theorem ur_5t {L : Nat} {xs : Nat → Int32} {d : Nat} {I : Nat → Nat → Int32} {J : Nat → Nat → Int64} {R : Nat → Nat → Nat} {n p q t : Int32} (hG : aGd R) (n1 : 0 ≤ n.toInt) (m1 : n.toInt < 8) (b1 : (I 97 n.toNatClampNeg).toInt ≠ p.toInt) (n2 : 0 ≤ p.toInt) (m2 : p.toInt < 7) (b2 : (I 119 p.toNatClampNeg).toInt < 0 ∨ 4 < (I 119 p.toNatClampNeg).toInt) (n3 : 0 ≤ n.toInt) (m3 : n.toInt < 8) (b3 : q.toInt = (I 97 n.toNatClampNeg).toInt) : xEv L xs d 229 0 [.ref 86, .int n, .int p, .int q, .int t] [] (124, I, J, R) (some (.int 1)) (124, I, J, R) := by
  refine ev_go 1 (pc1 := 1) (lv1 := [.ref 86, .int n, .int p, .int q, .int t]) (st1 := [.ref 86]) (h1 := (124, I, J, R)) rfl ?_
  refine ev_gf (c := 86) (t := 97) (X := R 86 21) rfl rfl (fun _ => rfl) rfl (hG 86 21 97 rfl rfl) ?_
  refine ev_go 1 (pc1 := 5) (lv1 := [.ref 86, .int n, .int p, .int q, .int t]) (st1 := [.int n, .ref 97]) (h1 := (124, I, J, R)) rfl ?_
  refine ev_ild (n := 8) rfl rfl (fun _ => rfl) n1 m1 ?_
  refine ev_go 1 (pc1 := 7) (lv1 := [.ref 86, .int n, .int p, .int q, .int t]) (st1 := [.int p, .int (I 97 n.toNatClampNeg)]) (h1 := (124, I, J, R)) rfl ?_
  refine ev_br (b1 := true) rfl rfl (xcd_ne (x := (I 97 n.toNatClampNeg)) (y := p) (by first | exact b1 | omega)) ?_
  refine ev_go 1 (pc1 := 13) (lv1 := [.ref 86, .int n, .int p, .int q, .int t]) (st1 := [.ref 86]) (h1 := (124, I, J, R)) rfl ?_
  refine ev_gf (c := 86) (t := 119) (X := R 86 54) rfl rfl (fun _ => rfl) rfl (hG 86 54 119 rfl rfl) ?_
  refine ev_go 1 (pc1 := 17) (lv1 := [.ref 86, .int n, .int p, .int q, .int t]) (st1 := [.int p, .ref 119]) (h1 := (124, I, J, R)) rfl ?_
  refine ev_ild (n := 7) rfl rfl (fun _ => rfl) n2 m2 ?_
  refine ev_tab (x := (I 119 p.toNatClampNeg)) (t := 152) rfl rfl b2 rfl ?_
  refine ev_go 2 (pc1 := 154) (lv1 := [.ref 86, .int n, .int p, .int q, .int t]) (st1 := [.ref 86, .int q]) (h1 := (124, I, J, R)) rfl ?_
  refine ev_gf (c := 86) (t := 97) (X := R 86 21) rfl rfl (fun _ => rfl) rfl (hG 86 21 97 rfl rfl) ?_
  refine ev_go 1 (pc1 := 158) (lv1 := [.ref 86, .int n, .int p, .int q, .int t]) (st1 := [.int n, .ref 97, .int q]) (h1 := (124, I, J, R)) rfl ?_
  refine ev_ild (n := 8) rfl rfl (fun _ => rfl) n3 m3 ?_
  refine ev_br (b1 := false) rfl rfl (xcd_nne (x := q) (y := (I 97 n.toNatClampNeg)) (by first | exact b3 | omega)) ?_
  refine ev_go 1 (pc1 := 163) (lv1 := [.ref 86, .int n, .int p, .int q, .int t]) (st1 := [.int 1]) (h1 := (124, I, J, R)) rfl ?_
  exact ev_ret rfl rfl
set_option maxRecDepth 20000 in
theorem ur_5n {L : Nat} {xs : Nat → Int32} {d : Nat} {I : Nat → Nat → Int32} {J : Nat → Nat → Int64} {R : Nat → Nat → Nat} {I1 : Nat → Nat → Int32} {J1 : Nat → Nat → Int64} {n p q t o : Int32} (hG : aGd R) (n1 : 0 ≤ n.toInt) (m1 : n.toInt < 8) (b1 : (I 97 n.toNatClampNeg).toInt ≠ p.toInt) (n2 : 0 ≤ p.toInt) (m2 : p.toInt < 7) (b2 : (I 119 p.toNatClampNeg).toInt < 0 ∨ 4 < (I 119 p.toNatClampNeg).toInt) (n3 : 0 ≤ n.toInt) (m3 : n.toInt < 8) (b3 : q.toInt ≠ (I 97 n.toNatClampNeg).toInt) (n4 : 0 ≤ n.toInt) (m4 : n.toInt < 8) (n5 : 0 ≤ n.toInt) (m5 : n.toInt < 8) (c1 : xEv L xs d 189 0 [.ref 86, .int n, .int (I 97 n.toNatClampNeg), .int (t + 1), .int (I 98 n.toNatClampNeg), xmk, xmk, xmk, xmk, xmk, xmk, xmk] [] (124, I, J, R) none (124, I1, J1, R)) (c2 : xEv L xs d 191 0 [.ref 86, .int q, .int p, xmk, xmk, xmk, xmk, xmk] [] (124, I1, J1, R) (some (.int o)) (124, I1, J1, R)) (b4 : o.toInt ≤ 0) : xEv L xs (d + 1) 229 0 [.ref 86, .int n, .int p, .int q, .int t] [] (124, I, J, R) (some (.int 0)) (124, I1, J1, R) := by
  refine ev_go 1 (pc1 := 1) (lv1 := [.ref 86, .int n, .int p, .int q, .int t]) (st1 := [.ref 86]) (h1 := (124, I, J, R)) rfl ?_
  refine ev_gf (c := 86) (t := 97) (X := R 86 21) rfl rfl (fun _ => rfl) rfl (hG 86 21 97 rfl rfl) ?_
  refine ev_go 1 (pc1 := 5) (lv1 := [.ref 86, .int n, .int p, .int q, .int t]) (st1 := [.int n, .ref 97]) (h1 := (124, I, J, R)) rfl ?_
  refine ev_ild (n := 8) rfl rfl (fun _ => rfl) n1 m1 ?_
  refine ev_go 1 (pc1 := 7) (lv1 := [.ref 86, .int n, .int p, .int q, .int t]) (st1 := [.int p, .int (I 97 n.toNatClampNeg)]) (h1 := (124, I, J, R)) rfl ?_
  refine ev_br (b1 := true) rfl rfl (xcd_ne (x := (I 97 n.toNatClampNeg)) (y := p) (by first | exact b1 | omega)) ?_
  refine ev_go 1 (pc1 := 13) (lv1 := [.ref 86, .int n, .int p, .int q, .int t]) (st1 := [.ref 86]) (h1 := (124, I, J, R)) rfl ?_
  refine ev_gf (c := 86) (t := 119) (X := R 86 54) rfl rfl (fun _ => rfl) rfl (hG 86 54 119 rfl rfl) ?_
  refine ev_go 1 (pc1 := 17) (lv1 := [.ref 86, .int n, .int p, .int q, .int t]) (st1 := [.int p, .ref 119]) (h1 := (124, I, J, R)) rfl ?_
  refine ev_ild (n := 7) rfl rfl (fun _ => rfl) n2 m2 ?_
  refine ev_tab (x := (I 119 p.toNatClampNeg)) (t := 152) rfl rfl b2 rfl ?_
  refine ev_go 2 (pc1 := 154) (lv1 := [.ref 86, .int n, .int p, .int q, .int t]) (st1 := [.ref 86, .int q]) (h1 := (124, I, J, R)) rfl ?_
  refine ev_gf (c := 86) (t := 97) (X := R 86 21) rfl rfl (fun _ => rfl) rfl (hG 86 21 97 rfl rfl) ?_
  refine ev_go 1 (pc1 := 158) (lv1 := [.ref 86, .int n, .int p, .int q, .int t]) (st1 := [.int n, .ref 97, .int q]) (h1 := (124, I, J, R)) rfl ?_
  refine ev_ild (n := 8) rfl rfl (fun _ => rfl) n3 m3 ?_
  refine ev_br (b1 := true) rfl rfl (xcd_ne (x := q) (y := (I 97 n.toNatClampNeg)) (by first | exact b3 | omega)) ?_
  refine ev_go 3 (pc1 := 167) (lv1 := [.ref 86, .int n, .int p, .int q, .int t]) (st1 := [.ref 86, .int n, .ref 86]) (h1 := (124, I, J, R)) rfl ?_
  refine ev_gf (c := 86) (t := 97) (X := R 86 21) rfl rfl (fun _ => rfl) rfl (hG 86 21 97 rfl rfl) ?_
  refine ev_go 1 (pc1 := 171) (lv1 := [.ref 86, .int n, .int p, .int q, .int t]) (st1 := [.int n, .ref 97, .int n, .ref 86]) (h1 := (124, I, J, R)) rfl ?_
  refine ev_ild (n := 8) rfl rfl (fun _ => rfl) n4 m4 ?_
  refine ev_go 4 (pc1 := 177) (lv1 := [.ref 86, .int n, .int p, .int q, .int t]) (st1 := [.ref 86, .int (t + 1), .int (I 97 n.toNatClampNeg), .int n, .ref 86]) (h1 := (124, I, J, R)) rfl ?_
  refine ev_gf (c := 86) (t := 98) (X := R 86 22) rfl rfl (fun _ => rfl) rfl (hG 86 22 98 rfl rfl) ?_
  refine ev_go 1 (pc1 := 181) (lv1 := [.ref 86, .int n, .int p, .int q, .int t]) (st1 := [.int n, .ref 98, .int (t + 1), .int (I 97 n.toNatClampNeg), .int n, .ref 86]) (h1 := (124, I, J, R)) rfl ?_
  refine ev_ild (n := 8) rfl rfl (fun _ => rfl) n5 m5 ?_
  refine ev_call (v1 := none) (h1 := (124, I1, J1, R)) rfl rfl c1 ?_
  refine ev_go 3 (pc1 := 188) (lv1 := [.ref 86, .int n, .int p, .int q, .int t]) (st1 := [.int p, .int q, .ref 86]) (h1 := (124, I1, J1, R)) rfl ?_
  refine ev_call (v1 := (some (.int o))) (h1 := (124, I1, J1, R)) rfl rfl c2 ?_
  refine ev_br (b1 := true) rfl rfl (xcd_le (x := o) (y := 0) (by rw [show ((0 : Int32)).toInt = 0 from by decide]; first | exact b4 | omega)) ?_
  refine ev_go 1 (pc1 := 199) (lv1 := [.ref 86, .int n, .int p, .int q, .int t]) (st1 := [.int 0]) (h1 := (124, I1, J1, R)) rfl ?_
  exact ev_ret rfl rfl
set_option maxRecDepth 20000 in
theorem ur_5y {L : Nat} {xs : Nat → Int32} {d : Nat} {I : Nat → Nat → Int32} {J : Nat → Nat → Int64} {R : Nat → Nat → Nat} {I1 : Nat → Nat → Int32} {J1 : Nat → Nat → Int64} {n p q t o : Int32} (hG : aGd R) (n1 : 0 ≤ n.toInt) (m1 : n.toInt < 8) (b1 : (I 97 n.toNatClampNeg).toInt ≠ p.toInt) (n2 : 0 ≤ p.toInt) (m2 : p.toInt < 7) (b2 : (I 119 p.toNatClampNeg).toInt < 0 ∨ 4 < (I 119 p.toNatClampNeg).toInt) (n3 : 0 ≤ n.toInt) (m3 : n.toInt < 8) (b3 : q.toInt ≠ (I 97 n.toNatClampNeg).toInt) (n4 : 0 ≤ n.toInt) (m4 : n.toInt < 8) (n5 : 0 ≤ n.toInt) (m5 : n.toInt < 8) (c1 : xEv L xs d 189 0 [.ref 86, .int n, .int (I 97 n.toNatClampNeg), .int (t + 1), .int (I 98 n.toNatClampNeg), xmk, xmk, xmk, xmk, xmk, xmk, xmk] [] (124, I, J, R) none (124, I1, J1, R)) (c2 : xEv L xs d 191 0 [.ref 86, .int q, .int p, xmk, xmk, xmk, xmk, xmk] [] (124, I1, J1, R) (some (.int o)) (124, I1, J1, R)) (b4 : o.toInt > 0) : xEv L xs (d + 1) 229 0 [.ref 86, .int n, .int p, .int q, .int t] [] (124, I, J, R) (some (.int 1)) (124, I1, J1, R) := by
  refine ev_go 1 (pc1 := 1) (lv1 := [.ref 86, .int n, .int p, .int q, .int t]) (st1 := [.ref 86]) (h1 := (124, I, J, R)) rfl ?_
  refine ev_gf (c := 86) (t := 97) (X := R 86 21) rfl rfl (fun _ => rfl) rfl (hG 86 21 97 rfl rfl) ?_
  refine ev_go 1 (pc1 := 5) (lv1 := [.ref 86, .int n, .int p, .int q, .int t]) (st1 := [.int n, .ref 97]) (h1 := (124, I, J, R)) rfl ?_
  refine ev_ild (n := 8) rfl rfl (fun _ => rfl) n1 m1 ?_
  refine ev_go 1 (pc1 := 7) (lv1 := [.ref 86, .int n, .int p, .int q, .int t]) (st1 := [.int p, .int (I 97 n.toNatClampNeg)]) (h1 := (124, I, J, R)) rfl ?_
  refine ev_br (b1 := true) rfl rfl (xcd_ne (x := (I 97 n.toNatClampNeg)) (y := p) (by first | exact b1 | omega)) ?_
  refine ev_go 1 (pc1 := 13) (lv1 := [.ref 86, .int n, .int p, .int q, .int t]) (st1 := [.ref 86]) (h1 := (124, I, J, R)) rfl ?_
  refine ev_gf (c := 86) (t := 119) (X := R 86 54) rfl rfl (fun _ => rfl) rfl (hG 86 54 119 rfl rfl) ?_
  refine ev_go 1 (pc1 := 17) (lv1 := [.ref 86, .int n, .int p, .int q, .int t]) (st1 := [.int p, .ref 119]) (h1 := (124, I, J, R)) rfl ?_
  refine ev_ild (n := 7) rfl rfl (fun _ => rfl) n2 m2 ?_
  refine ev_tab (x := (I 119 p.toNatClampNeg)) (t := 152) rfl rfl b2 rfl ?_
  refine ev_go 2 (pc1 := 154) (lv1 := [.ref 86, .int n, .int p, .int q, .int t]) (st1 := [.ref 86, .int q]) (h1 := (124, I, J, R)) rfl ?_
  refine ev_gf (c := 86) (t := 97) (X := R 86 21) rfl rfl (fun _ => rfl) rfl (hG 86 21 97 rfl rfl) ?_
  refine ev_go 1 (pc1 := 158) (lv1 := [.ref 86, .int n, .int p, .int q, .int t]) (st1 := [.int n, .ref 97, .int q]) (h1 := (124, I, J, R)) rfl ?_
  refine ev_ild (n := 8) rfl rfl (fun _ => rfl) n3 m3 ?_
  refine ev_br (b1 := true) rfl rfl (xcd_ne (x := q) (y := (I 97 n.toNatClampNeg)) (by first | exact b3 | omega)) ?_
  refine ev_go 3 (pc1 := 167) (lv1 := [.ref 86, .int n, .int p, .int q, .int t]) (st1 := [.ref 86, .int n, .ref 86]) (h1 := (124, I, J, R)) rfl ?_
  refine ev_gf (c := 86) (t := 97) (X := R 86 21) rfl rfl (fun _ => rfl) rfl (hG 86 21 97 rfl rfl) ?_
  refine ev_go 1 (pc1 := 171) (lv1 := [.ref 86, .int n, .int p, .int q, .int t]) (st1 := [.int n, .ref 97, .int n, .ref 86]) (h1 := (124, I, J, R)) rfl ?_
  refine ev_ild (n := 8) rfl rfl (fun _ => rfl) n4 m4 ?_
  refine ev_go 4 (pc1 := 177) (lv1 := [.ref 86, .int n, .int p, .int q, .int t]) (st1 := [.ref 86, .int (t + 1), .int (I 97 n.toNatClampNeg), .int n, .ref 86]) (h1 := (124, I, J, R)) rfl ?_
  refine ev_gf (c := 86) (t := 98) (X := R 86 22) rfl rfl (fun _ => rfl) rfl (hG 86 22 98 rfl rfl) ?_
  refine ev_go 1 (pc1 := 181) (lv1 := [.ref 86, .int n, .int p, .int q, .int t]) (st1 := [.int n, .ref 98, .int (t + 1), .int (I 97 n.toNatClampNeg), .int n, .ref 86]) (h1 := (124, I, J, R)) rfl ?_
  refine ev_ild (n := 8) rfl rfl (fun _ => rfl) n5 m5 ?_
  refine ev_call (v1 := none) (h1 := (124, I1, J1, R)) rfl rfl c1 ?_
  refine ev_go 3 (pc1 := 188) (lv1 := [.ref 86, .int n, .int p, .int q, .int t]) (st1 := [.int p, .int q, .ref 86]) (h1 := (124, I1, J1, R)) rfl ?_
  refine ev_call (v1 := (some (.int o))) (h1 := (124, I1, J1, R)) rfl rfl c2 ?_
  refine ev_br (b1 := false) rfl rfl (xcd_nle (x := o) (y := 0) (by rw [show ((0 : Int32)).toInt = 0 from by decide]; first | exact b4 | omega)) ?_
  refine ev_go 2 (pc1 := 199) (lv1 := [.ref 86, .int n, .int p, .int q, .int t]) (st1 := [.int 1]) (h1 := (124, I1, J1, R)) rfl ?_
  exact ev_ret rfl rfl
