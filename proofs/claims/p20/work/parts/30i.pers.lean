theorem l2i_n {x : Int64} {z : Int32} (h : x.toInt = z.toInt) : x.toInt32 = z := by
  refine Int32.toInt_inj.mp ?_
  rw [Int64.toInt_toInt32, h]
  exact abm (aw z).1 (aw z).2
theorem cTok_c {b : Nat → Int32} {n st k e : Nat} {I I' : Nat → Nat → Int32} {J J' : Nat → Nat → Int64} (h : cTok b n I J st k e) (h1 : ∀ q, I' 1 q = I 1 q) (h2 : ∀ q, I' 2 q = I 2 q) (h3 : J' 1 5 = J 1 5) : cTok b n I' J' st k e := by
  obtain ⟨a1, a2, a3, a4, a5, a6, a7⟩ := h
  refine ⟨by rw [h1]; exact a1, by rw [h1]; exact a2, by rw [h1]; exact a3, by rw [h1]; exact a4, by rw [h3]; exact a5, ?_, a7⟩
  rw [← a6]
  funext q
  unfold bX
  rw [h2]
theorem rTok_c {b : Nat → Int32} {n st k e : Nat} {I I' : Nat → Nat → Int32} {J J' : Nat → Nat → Int64} (h : rTok b n I J st k e) (h1 : ∀ q, I' 86 q = I 86 q) (h2 : ∀ q, I' 87 q = I 87 q) (h3 : J' 86 10 = J 86 10) : rTok b n I' J' st k e := by
  obtain ⟨a1, a2, a3, a4, a5, a6, a7, a8, a9⟩ := h
  refine ⟨by rw [h1]; exact a1, by rw [h1]; exact a2, by rw [h1]; exact a3, by rw [h1]; exact a4, by rw [h3]; exact a5, by rw [h1]; exact a6, by rw [h1]; exact a7, ?_, a9⟩
  rw [← a8]
  funext q
  unfold bM
  rw [h2]
theorem cIn_0 {f : Nat → Int} {z : Int} : ∀ m, (∀ i, i < m → f i ≠ z) → cIn f z m = 0
  | 0, _ => rfl
  | m + 1, h => by
    show cIn f z m + (if f m = z then 1 else 0) = 0
    rw [cIn_0 m (fun i hi => h i (by omega)), if_neg (h m (by omega))]
theorem cIn_e {f g : Nat → Int} {z : Int} : ∀ m, (∀ i, i < m → f i = g i) → cIn f z m = cIn g z m
  | 0, _ => rfl
  | m + 1, h => by
    show cIn f z m + (if f m = z then 1 else 0) = cIn g z m + (if g m = z then 1 else 0)
    rw [cIn_e m (fun i hi => h i (by omega)), h m (by omega)]
theorem put_in {L : Nat} {xs : Nat → Int32} {d : Nat} {I : Nat → Nat → Int32} {J : Nat → Nat → Int64} {R : Nat → Nat → Nat} {c n : Nat} (ho : ∀ f : FieldType → Nat → Option xR, xarr (124, I, J, R) c f = f .int n) (hn : n < 2147483648) {i : Int32} (x : Int32) (h0 : 0 ≤ i.toInt) (h1 : i.toInt < n) : xEv L xs d 33 0 [.ref c, .int i, .int x] [] (124, I, J, R) none (124, uI I c i.toNatClampNeg x, J, R) := by
  have h := put_run (L := L) (xs := xs) (d := d) ho hn i x
  rw [if_pos ⟨h0, h1⟩] at h
  exact h
/-- what a parse leaves of the reference -/
def FRr (I I' : Nat → Nat → Int32) : Prop := ∀ c q, ¬ (c = 86 ∧ q ≤ 11) → ¬ (c = 88 ∧ 3 ≤ q) → ¬ ((c = 90 ∨ c = 91) ∧ 7 ≤ q) → ¬ (92 ≤ c ∧ c ≤ 95 ∧ 16 ≤ q) → ¬ (96 ≤ c ∧ c ≤ 100 ∧ 4 ≤ q) → I' c q = I c q
theorem fr_t {I I' I'' : Nat → Nat → Int32} (h : FRr I I') (h' : FRr I' I'') : FRr I I'' := fun c q t1 t2 t3 t4 t5 => (h' c q t1 t2 t3 t4 t5).trans (h c q t1 t2 t3 t4 t5)
theorem fr_S {I I' : Nat → Nat → Int32} {J J' : Nat → Nat → Int64} (h : alS I I' J J') : FRr I I' := fun c q t1 t2 t3 t4 t5 => h.1 c q (by omega)
theorem fr_M {I I' : Nat → Nat → Int32} {J J' : Nat → Nat → Int64} (h : alM I I' J J') : FRr I I' := fun c q t1 t2 t3 t4 t5 => h.1 c q (by omega)
/-- what a parse leaves of the class -/
def FRc_3 (I I' : Nat → Nat → Int32) : Prop := ∀ c q, c ≠ 1 → ¬ (3 ≤ c ∧ c ≤ 17) → c ≠ 43 → I' c q = I c q
theorem frc_t_3 {I I' I'' : Nat → Nat → Int32} (h : FRc_3 I I') (h' : FRc_3 I' I'') : FRc_3 I I'' := fun c q t1 t2 t3 => (h' c q t1 t2 t3).trans (h c q t1 t2 t3)
/-- what a clause leads to -/
def CL_3 (b : Nat → Int32) (n e0 : Nat) (Ic : Nat → Nat → Int32) (Ir : Nat → Nat → Int32) (Ic' : Nat → Nat → Int32) (Jc' : Nat → Nat → Int64) (Ir' : Nat → Nat → Int32) (Jr' : Nat → Nat → Int64) (w : Int32) : Prop :=
  ((Ic' 3 17 = Ic 3 17 ∧ Ic' 17 5 = Ic 17 5 ∧ FRc_3 Ic Ic') ∧ FRr Ir Ir') ∧ ((w = 0 ∧ (Ic' 43 2).toInt ≠ 0 ∧ (Ic' 43 2).toInt = (Ir' 86 8).toInt ∧ (Ic' 43 3).toInt = (Ir' 86 9).toInt) ∨ (w = 1 ∧ (Ic' 43 2).toInt = 0 ∧ Ic' 43 3 = Ic 43 3 ∧ Ir' 86 8 = Ir 86 8 ∧ Ir' 86 9 = Ir 86 9 ∧ ∃ st k e np nm nn, e0 ≤ e ∧ cTok b n Ic' Jc' st k e ∧ rTok b n Ir' Jr' st k e ∧ PR_3 b np nm nn Ic' Jc' Ir' Jr'))
section PE3
variable {L : Nat} {xs : Nat → Int32} {d d' : Nat} {R Rr : Nat → Nat → Nat}
theorem rpd47_3 {I : Nat → Nat → Int32} {J : Nat → Nat → Int64} (hG : aGd R) (h0 : (I 43 2).toInt ≠ 0) (x : Int64) (y : Int32) (u4 : Value) : xEv L xs (d + 2) 26 47 [.ref 43, .long x, xmk, .int y, u4] [] (124, I, J, R) none (124, I, J, R) := rpD47_3 hG (ro_dead_4 hG h0 _ _ _) h0
theorem rpd40_3 {I : Nat → Nat → Int32} {J : Nat → Nat → Int64} (hG : aGd R) (h0 : (I 43 2).toInt ≠ 0) (x : Int64) (u3 u4 : Value) : xEv L xs (d + 2) 26 40 [.ref 43, .long x, xmk, u3, u4] [] (124, I, J, R) none (124, I, J, R) := by
  obtain ⟨z, c1⟩ := nu_dead (L := L) (xs := xs) (d := d) (I := I) (J := J) hG h0 1 3
  exact rpD40_3 hG c1 (rpd47_3 hG h0 _ _ _)
theorem rpd23_3 {I : Nat → Nat → Int32} {J : Nat → Nat → Int64} (hG : aGd R) (hR : R 43 1 = 4) {m : Nat} (hm : (I 3 14).toInt = m) (hm7 : m ≤ 7) (h0 : (I 43 2).toInt ≠ 0) (x : Int64) (u3 u4 : Value) : xEv L xs (d + 2) 26 23 [.ref 43, .long x, xmk, u3, u4] [] (124, I, J, R) none (124, I, J, R) := by
  obtain ⟨z, c1, -⟩ := pn_run_3 (L := L) (xs := xs) (d := d + 1) (J := J) hG hm hm7 x
  by_cases g : z.toInt = -1
  · exact rpD23a_3 hG hR c1 g (rpd40_3 hG h0 _ _ _)
  · exact rpD23b_3 hG hR c1 g (fl_d hG h0) (rpd40_3 hG h0 _ _ _)
theorem rpd17_3 {I : Nat → Nat → Int32} {J : Nat → Nat → Int64} (hG : aGd R) (hR : R 43 1 = 4) {m : Nat} (hm : (I 3 14).toInt = m) (hm7 : m ≤ 7) (h0 : (I 43 2).toInt ≠ 0) (u1 u2 u3 u4 : Value) : xEv L xs (d + 2) 26 17 [.ref 43, u1, u2, u3, u4] [] (124, I, J, R) none (124, I, J, R) := rpD17_3 hG (tk_d hG h0) (rpd23_3 hG hR hm hm7 h0 _ _ _)
theorem ap_run_3 {I : Nat → Nat → Int32} {J : Nat → Nat → Int64} (hG : aGd R) (h0 : 0 ≤ (I 3 14).toInt) (h7 : (I 3 14).toInt < 7) (x : Int64) (y z : Int32) : xEv L xs (d + 1) 32 0 [.ref 3, .long x, xmk, .int y, .int z] [] (124, I, J, R) none (124, uI (uI (uI I 5 (I 3 14).toNatClampNeg y) 6 (I 3 14).toNatClampNeg z) 3 14 (I 3 14 + 1), uL J 4 (I 3 14).toNatClampNeg x, R) := ap_3 hG (by omega) (by omega) h0 h7 (put_in (fun _ => rfl) (by decide) y h0 h7) (put_in (fun _ => rfl) (by decide) z h0 h7)
/-- the village with one person more -/
theorem PR_p_3 {b : Nat → Int32} {np nm nn : Nat} {Ic Ir : Nat → Nat → Int32} {Jc Jr : Nat → Nat → Int64} {Ic' Ir' : Nat → Nat → Int32} {Jc' Jr' : Nat → Nat → Int64} (h : PR_3 b np nm nn Ic Jc Ir Jr) (h7 : np < 7) {st m : Nat} (hm1 : 1 ≤ m) (hm8 : m ≤ 8) (hl : isLt b st m) (y z : Int32) (hy : 1 ≤ y.toInt)
    (e1 : (Ic' 3 14).toInt = ((np + 1 : Nat) : Int)) (e2 : Ic' 3 15 = Ic 3 15) (e3 : Ic' 3 16 = Ic 3 16) (e4 : ∀ i, Ic' 5 i = if i = np then y else Ic 5 i) (e5 : ∀ i, Ic' 6 i = if i = np then z else Ic 6 i) (e6 : ∀ c, 7 ≤ c → c ≤ 15 → Ic' c = Ic c) (e7 : ∀ i, Jc' 4 i = if i = np then vF b st m else Jc 4 i)
    (r1 : (Ir' 88 3).toInt = ((np + 1 : Nat) : Int)) (r2 : Ir' 88 4 = Ir 88 4) (r3 : Ir' 88 5 = Ir 88 5) (r4 : ∀ i, i ≤ np → Ir' 90 (7 + i) = if i = np then y else Ir 90 (7 + i)) (r5 : ∀ i, i ≤ np → Ir' 91 (7 + i) = if i = np then z else Ir 91 (7 + i)) (r6 : ∀ c, 92 ≤ c → c ≤ 100 → Ir' c = Ir c) (r7 : ∀ i, i ≤ np → Jr' 89 i = if i = np then wF b st m else Jr 89 i) : PR_3 b (np + 1) nm nn Ic' Jc' Ir' Jr' := by
  obtain ⟨⟨p1, p2, p3⟩, ⟨q1, q2⟩, ⟨q3, q4⟩, ⟨q5, q6⟩, q7, q8, q9, q10, q11, q12⟩ := h
  refine ⟨⟨by omega, p2, p3⟩, ⟨e1, r1⟩, ⟨by rw [e2]; exact q3, by rw [r2]; exact q4⟩, ⟨by rw [e3]; exact q5, by rw [r3]; exact q6⟩, ?_, ?_, ?_, ?_, ?_, ?_⟩
  · intro i hi
    by_cases g : i = np
    · rw [e4, e5, e7, r4 i (by omega), r5 i (by omega), r7 i (by omega)]
      simp only [if_pos g]
      exact ⟨trivial, trivial, hy, st, m, hm1, hm8, hl, rfl, rfl⟩
    · rw [e4, e5, e7, r4 i (by omega), r5 i (by omega), r7 i (by omega)]
      simp only [if_neg g]
      exact q7 i (by omega)
  · intro i hi
    rw [e6 7 (by decide) (by decide), e6 8 (by decide) (by decide), e6 9 (by decide) (by decide), e6 10 (by decide) (by decide), r6 92 (by decide) (by decide), r6 93 (by decide) (by decide), r6 94 (by decide) (by decide), r6 95 (by decide) (by decide)]
    exact q8 i hi
  · intro i hi
    rw [e6 11 (by decide) (by decide), e6 12 (by decide) (by decide), e6 13 (by decide) (by decide), e6 14 (by decide) (by decide), e6 15 (by decide) (by decide), r6 96 (by decide) (by decide), r6 97 (by decide) (by decide), r6 98 (by decide) (by decide), r6 99 (by decide) (by decide), r6 100 (by decide) (by decide)]
    exact q9 i hi
  · intro i hi
    rw [e6 11 (by decide) (by decide)]
    have := q10 i hi
    omega
  · intro q hq
    rw [e6 11 (by decide) (by decide), e4]
    by_cases g : q = np
    · rw [if_pos g, g, cIn_0 nn (fun i hi => by have := q10 i hi; omega)]
      omega
    · rw [if_neg g]
      exact q11 q (by omega)
  · rw [e6 7 (by decide) (by decide), e6 8 (by decide) (by decide), e6 11 (by decide) (by decide), e6 12 (by decide) (by decide)]
    exact ⟨fun i hi => by have := q12.1 i hi; omega, fun i hi => by have := q12.2 i hi; omega⟩
end PE3
/-- what a parse leaves of the class -/
def FRc_23 (I I' : Nat → Nat → Int32) : Prop := ∀ c q, c ≠ 1 → ¬ (23 ≤ c ∧ c ≤ 37) → c ≠ 43 → I' c q = I c q
theorem frc_t_23 {I I' I'' : Nat → Nat → Int32} (h : FRc_23 I I') (h' : FRc_23 I' I'') : FRc_23 I I'' := fun c q t1 t2 t3 => (h' c q t1 t2 t3).trans (h c q t1 t2 t3)
/-- what a clause leads to -/
def CL_23 (b : Nat → Int32) (n e0 : Nat) (Ic : Nat → Nat → Int32) (Ir : Nat → Nat → Int32) (Ic' : Nat → Nat → Int32) (Jc' : Nat → Nat → Int64) (Ir' : Nat → Nat → Int32) (Jr' : Nat → Nat → Int64) (w : Int32) : Prop :=
  ((Ic' 23 17 = Ic 23 17 ∧ Ic' 37 5 = Ic 37 5 ∧ FRc_23 Ic Ic') ∧ FRr Ir Ir') ∧ ((w = 0 ∧ (Ic' 43 2).toInt ≠ 0 ∧ (Ic' 43 2).toInt = (Ir' 86 8).toInt ∧ (Ic' 43 3).toInt = (Ir' 86 9).toInt) ∨ (w = 1 ∧ (Ic' 43 2).toInt = 0 ∧ Ic' 43 3 = Ic 43 3 ∧ Ir' 86 8 = Ir 86 8 ∧ Ir' 86 9 = Ir 86 9 ∧ ∃ st k e np nm nn, e0 ≤ e ∧ cTok b n Ic' Jc' st k e ∧ rTok b n Ir' Jr' st k e ∧ PR_23 b np nm nn Ic' Jc' Ir' Jr'))
section PE23
variable {L : Nat} {xs : Nat → Int32} {d d' : Nat} {R Rr : Nat → Nat → Nat}
theorem rpd47_23 {I : Nat → Nat → Int32} {J : Nat → Nat → Int64} (hG : aGd R) (h0 : (I 43 2).toInt ≠ 0) (x : Int64) (y : Int32) (u4 : Value) : xEv L xs (d + 2) 26 47 [.ref 43, .long x, xmk, .int y, u4] [] (124, I, J, R) none (124, I, J, R) := rpD47_23 hG (ro_dead_4 hG h0 _ _ _) h0
theorem rpd40_23 {I : Nat → Nat → Int32} {J : Nat → Nat → Int64} (hG : aGd R) (h0 : (I 43 2).toInt ≠ 0) (x : Int64) (u3 u4 : Value) : xEv L xs (d + 2) 26 40 [.ref 43, .long x, xmk, u3, u4] [] (124, I, J, R) none (124, I, J, R) := by
  obtain ⟨z, c1⟩ := nu_dead (L := L) (xs := xs) (d := d) (I := I) (J := J) hG h0 1 3
  exact rpD40_23 hG c1 (rpd47_23 hG h0 _ _ _)
theorem rpd23_23 {I : Nat → Nat → Int32} {J : Nat → Nat → Int64} (hG : aGd R) (hR : R 43 1 = 24) {m : Nat} (hm : (I 23 14).toInt = m) (hm7 : m ≤ 7) (h0 : (I 43 2).toInt ≠ 0) (x : Int64) (u3 u4 : Value) : xEv L xs (d + 2) 26 23 [.ref 43, .long x, xmk, u3, u4] [] (124, I, J, R) none (124, I, J, R) := by
  obtain ⟨z, c1, -⟩ := pn_run_23 (L := L) (xs := xs) (d := d + 1) (J := J) hG hm hm7 x
  by_cases g : z.toInt = -1
  · exact rpD23a_23 hG hR c1 g (rpd40_23 hG h0 _ _ _)
  · exact rpD23b_23 hG hR c1 g (fl_d hG h0) (rpd40_23 hG h0 _ _ _)
theorem rpd17_23 {I : Nat → Nat → Int32} {J : Nat → Nat → Int64} (hG : aGd R) (hR : R 43 1 = 24) {m : Nat} (hm : (I 23 14).toInt = m) (hm7 : m ≤ 7) (h0 : (I 43 2).toInt ≠ 0) (u1 u2 u3 u4 : Value) : xEv L xs (d + 2) 26 17 [.ref 43, u1, u2, u3, u4] [] (124, I, J, R) none (124, I, J, R) := rpD17_23 hG (tk_d hG h0) (rpd23_23 hG hR hm hm7 h0 _ _ _)
theorem ap_run_23 {I : Nat → Nat → Int32} {J : Nat → Nat → Int64} (hG : aGd R) (h0 : 0 ≤ (I 23 14).toInt) (h7 : (I 23 14).toInt < 7) (x : Int64) (y z : Int32) : xEv L xs (d + 1) 32 0 [.ref 23, .long x, xmk, .int y, .int z] [] (124, I, J, R) none (124, uI (uI (uI I 25 (I 23 14).toNatClampNeg y) 26 (I 23 14).toNatClampNeg z) 23 14 (I 23 14 + 1), uL J 24 (I 23 14).toNatClampNeg x, R) := ap_23 hG (by omega) (by omega) h0 h7 (put_in (fun _ => rfl) (by decide) y h0 h7) (put_in (fun _ => rfl) (by decide) z h0 h7)
/-- the village with one person more -/
theorem PR_p_23 {b : Nat → Int32} {np nm nn : Nat} {Ic Ir : Nat → Nat → Int32} {Jc Jr : Nat → Nat → Int64} {Ic' Ir' : Nat → Nat → Int32} {Jc' Jr' : Nat → Nat → Int64} (h : PR_23 b np nm nn Ic Jc Ir Jr) (h7 : np < 7) {st m : Nat} (hm1 : 1 ≤ m) (hm8 : m ≤ 8) (hl : isLt b st m) (y z : Int32) (hy : 1 ≤ y.toInt)
    (e1 : (Ic' 23 14).toInt = ((np + 1 : Nat) : Int)) (e2 : Ic' 23 15 = Ic 23 15) (e3 : Ic' 23 16 = Ic 23 16) (e4 : ∀ i, Ic' 25 i = if i = np then y else Ic 25 i) (e5 : ∀ i, Ic' 26 i = if i = np then z else Ic 26 i) (e6 : ∀ c, 27 ≤ c → c ≤ 35 → Ic' c = Ic c) (e7 : ∀ i, Jc' 24 i = if i = np then vF b st m else Jc 24 i)
    (r1 : (Ir' 88 3).toInt = ((np + 1 : Nat) : Int)) (r2 : Ir' 88 4 = Ir 88 4) (r3 : Ir' 88 5 = Ir 88 5) (r4 : ∀ i, i ≤ np → Ir' 90 (7 + i) = if i = np then y else Ir 90 (7 + i)) (r5 : ∀ i, i ≤ np → Ir' 91 (7 + i) = if i = np then z else Ir 91 (7 + i)) (r6 : ∀ c, 92 ≤ c → c ≤ 100 → Ir' c = Ir c) (r7 : ∀ i, i ≤ np → Jr' 89 i = if i = np then wF b st m else Jr 89 i) : PR_23 b (np + 1) nm nn Ic' Jc' Ir' Jr' := by
  obtain ⟨⟨p1, p2, p3⟩, ⟨q1, q2⟩, ⟨q3, q4⟩, ⟨q5, q6⟩, q7, q8, q9, q10, q11, q12⟩ := h
  refine ⟨⟨by omega, p2, p3⟩, ⟨e1, r1⟩, ⟨by rw [e2]; exact q3, by rw [r2]; exact q4⟩, ⟨by rw [e3]; exact q5, by rw [r3]; exact q6⟩, ?_, ?_, ?_, ?_, ?_, ?_⟩
  · intro i hi
    by_cases g : i = np
    · rw [e4, e5, e7, r4 i (by omega), r5 i (by omega), r7 i (by omega)]
      simp only [if_pos g]
      exact ⟨trivial, trivial, hy, st, m, hm1, hm8, hl, rfl, rfl⟩
    · rw [e4, e5, e7, r4 i (by omega), r5 i (by omega), r7 i (by omega)]
      simp only [if_neg g]
      exact q7 i (by omega)
  · intro i hi
    rw [e6 27 (by decide) (by decide), e6 28 (by decide) (by decide), e6 29 (by decide) (by decide), e6 30 (by decide) (by decide), r6 92 (by decide) (by decide), r6 93 (by decide) (by decide), r6 94 (by decide) (by decide), r6 95 (by decide) (by decide)]
    exact q8 i hi
  · intro i hi
    rw [e6 31 (by decide) (by decide), e6 32 (by decide) (by decide), e6 33 (by decide) (by decide), e6 34 (by decide) (by decide), e6 35 (by decide) (by decide), r6 96 (by decide) (by decide), r6 97 (by decide) (by decide), r6 98 (by decide) (by decide), r6 99 (by decide) (by decide), r6 100 (by decide) (by decide)]
    exact q9 i hi
  · intro i hi
    rw [e6 31 (by decide) (by decide)]
    have := q10 i hi
    omega
  · intro q hq
    rw [e6 31 (by decide) (by decide), e4]
    by_cases g : q = np
    · rw [if_pos g, g, cIn_0 nn (fun i hi => by have := q10 i hi; omega)]
      omega
    · rw [if_neg g]
      exact q11 q (by omega)
  · rw [e6 27 (by decide) (by decide), e6 28 (by decide) (by decide), e6 31 (by decide) (by decide), e6 32 (by decide) (by decide)]
    exact ⟨fun i hi => by have := q12.1 i hi; omega, fun i hi => by have := q12.2 i hi; omega⟩
end PE23
