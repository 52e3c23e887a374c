/-- one may tell another this piece -/
def mtP (I Ir : Nat → Nat → Int32) (k pN qN : Nat) (p q : Int32) : Prop := p ≠ Ir 97 k ∧ tb (I 66 6) pN = true ∧ tb (I 66 6) qN = true ∧ tb (Ir 100 k) qN = false ∧ (pcN (I 67) q 4 : Int) < (Ir 90 qN).toInt
/-- the rules of both, as they are read -/
def kdR (I Ir : Nat → Nat → Int32) : Prop := ∀ i, i < 7 → I 64 i = Ir 119 i ∧ (Ir 119 i = 1 → I 65 i = Ir 120 i) ∧ 0 ≤ (Ir 119 i).toInt ∧ (Ir 119 i).toInt ≤ 5
/-- what telling leaves as it was -/
def tlF (I I1 Ir Ir1 : Nat → Nat → Int32) (J J1 Jr Jr1 : Nat → Nat → Int64) : Prop := (∀ c k, ¬ (c = 53 ∧ k = 1) → I1 c k = I c k) ∧ (∀ c, c ≠ 54 → ∀ k, J1 c k = J c k) ∧ (∀ c k, ¬ (c = 86 ∧ k = 40) → Ir1 c k = Ir c k) ∧ (∀ c, c ≠ 108 → ∀ k, Jr1 c k = Jr c k)
theorem tlF_0 {I Ir : Nat → Nat → Int32} {J Jr : Nat → Nat → Int64} : tlF I I Ir Ir J J Jr Jr := ⟨fun _ _ _ => rfl, fun _ _ _ => rfl, fun _ _ _ => rfl, fun _ _ _ => rfl⟩
/-- the class's soonest, whoever asks -/
theorem sol1_3 {L : Nat} {xs : Nat → Int32} {d : Nat} {I Ir : Nat → Nat → Int32} {J : Nat → Nat → Int64} {R : Nat → Nat → Nat} (hG : aGd R) {np nm nn : Nat} {l : List (Nat × Nat)} (hV : VR_3 np nm nn l I Ir) {b fr to tm : Int32} {z : Nat} (hto : to.toInt = z) (hz : z < np) : ∀ (f n : Nat) (x t : Int32) (w7 : Value), n + f = l.length → t.toInt = n →
    ∃ r : Int32, xEv L xs (d + 2) 66 9 [.ref 17, .int b, .int fr, .int to, .int tm, .int x, .int t, w7] [] (124, I, J, R) (some (.int r)) (124, I, J, R) := by
  have hV0 := hV
  obtain ⟨⟨p1, p2, p3⟩, p4, p5, p6, ⟨q1, q2⟩, ⟨q3, q4⟩, ⟨q5, q6⟩, q7, q8, q9, ⟨q10, q11⟩, q12, q13, q14, q15, q16, q17⟩ := hV
  intro f
  induction f with
  | zero =>
    intro n x t w7 hn ht
    exact ⟨-1, sC_e_3 hG (by omega)⟩
  | succ f ih =>
    intro n x t w7 hn ht
    obtain ⟨m, hm, -, e1, e2, e3, e4, g1, g2, g3, g4, g5⟩ := tmz_3 hV0 (t := n) (by omega)
    have ec := clamp_s (i := t) (by omega)
    have ekt : t.toNatClampNeg = n := by omega
    have ht' : (t + 1).toInt = (n + 1 : Nat) := by rw [i_add1 (by omega)]; omega
    have at1 : ∀ c, (∀ g : FieldType → Nat → Option xR, xarr (124, I, J, R) c g = g .int 64) → ∀ d, xEv L xs d 39 0 [.ref c, .int t] [] (124, I, J, R) (some (.int (I c n))) (124, I, J, R) := by
      intro c ho d
      have h4 := at_run (L := L) (xs := xs) (d := d) (h := (124, I, J, R)) ho (by decide) t
      rw [if_pos ⟨by omega, by omega⟩, ekt] at h4
      exact h4
    have c1 := at1 20 (fun _ => rfl) (d + 1)
    have c2 := at1 21 (fun _ => rfl) (d + 1)
    have c3 := at1 22 (fun _ => rfl) d
    rw [e2] at c1
    rw [e3] at c2
    rw [e4] at c3
    by_cases hs : (Ir 95 m).toInt = 10
    · have k1 := cS_1_3 (L := L) (xs := xs) (I := I) (J := J) hG c3 hs
      obtain ⟨a, ha⟩ := Int.eq_ofNat_of_zero_le g1
      obtain ⟨c, hc⟩ := Int.eq_ofNat_of_zero_le g3
      have hS := sG_c (b := b) (x := x) ha hc (by omega) (by omega)
      have hsh : ∀ y : Int32, (y >>> (to &&& 31)) &&& 1 = (if tb y z then 1 else 0) := fun y => tb_shr hto (by omega)
      by_cases hp : x &&& ((1 <<< (Ir 92 m &&& 31)) ||| (1 <<< (Ir 93 m &&& 31))) = 0
      · obtain ⟨r, x1⟩ := ih (n + 1) x (t + 1) (.int ((1 <<< (Ir 92 m &&& 31)) ||| (1 <<< (Ir 93 m &&& 31)))) (by omega) ht'
        exact ⟨r, sC_0_3 hG (by omega) c1 c2 k1 (by rw [hp]; decide) x1⟩
      · have hp' : (x &&& ((1 <<< (Ir 92 m &&& 31)) ||| (1 <<< (Ir 93 m &&& 31)))).toInt ≠ 0 := fun h => hp (Int32.toInt_inj.mp h)
        cases hy : tb (sG b x (Ir 92 m) (Ir 93 m) a c) z with
        | true => exact ⟨t, sC_2_3 hG (by omega) c1 c2 k1 hp' (by rw [← hS.2 hp, hsh, hy]; decide)⟩
        | false =>
          obtain ⟨r, x1⟩ := ih (n + 1) (sG b x (Ir 92 m) (Ir 93 m) a c) (t + 1) (.int ((1 <<< (Ir 92 m &&& 31)) ||| (1 <<< (Ir 93 m &&& 31)))) (by omega) ht'
          exact ⟨r, sC_1_3 hG (by omega) c1 c2 k1 hp' (by rw [← hS.2 hp, hsh, hy]; decide) (by rw [← hS.2 hp]; exact x1)⟩
    · have k1 := cS_0_3 (L := L) (xs := xs) (I := I) (J := J) hG c3 hs
      obtain ⟨r, x1⟩ := ih (n + 1) x (t + 1) (.int ((1 <<< (Ir 92 m &&& 31)) ||| (1 <<< (Ir 93 m &&& 31)))) (by omega) ht'
      exact ⟨r, sC_n_3 hG (by omega) c1 c2 k1 x1⟩
theorem soo1_3 {L : Nat} {xs : Nat → Int32} {d : Nat} {I Ir : Nat → Nat → Int32} {J : Nat → Nat → Int64} {R : Nat → Nat → Nat} (hG : aGd R) {np nm nn : Nat} {l : List (Nat × Nat)} (hV : VR_3 np nm nn l I Ir) {b fr to tm : Int32} (h2 : 0 ≤ to.toInt ∧ to.toInt < np) (h3 : 0 ≤ tm.toInt ∧ tm.toInt ≤ l.length) :
    ∃ r : Int32, xEv L xs (d + 2) 66 0 [.ref 17, .int b, .int fr, .int to, .int tm, xmk, xmk, xmk] [] (124, I, J, R) (some (.int r)) (124, I, J, R) := by
  obtain ⟨z, hz⟩ := Int.eq_ofNat_of_zero_le h2.1
  obtain ⟨n, hn⟩ := Int.eq_ofNat_of_zero_le h3.1
  obtain ⟨r, x1⟩ := sol1_3 (L := L) (xs := xs) (d := d) (J := J) hG hV (b := b) (fr := fr) (to := to) (tm := tm) hz (by omega) (l.length - n) n (1 <<< (fr &&& 31)) tm xmk (by omega) hn
  exact ⟨r, sC_s_3 hG x1⟩
/-- both look back from a piece's hour -/
theorem lb2_3 {L : Nat} {xs : Nat → Int32} {d d' : Nat} {I Ir : Nat → Nat → Int32} {J Jr : Nat → Nat → Int64} {R Rr : Nat → Nat → Nat} (hG : aGd R) (hGr : aGd Rr) {np nm nn : Nat} {l : List (Nat × Nat)} (hV : VR_3 np nm nn l I Ir) (hch : ∀ q, q < 16 → 0 ≤ (Ir 95 q).toInt ∧ (Ir 95 q).toInt ≤ 10) {nw to tm : Int32} {aN cN tmN : Nat} (ha : nw.toInt = aN) (an : aN < nn) (hc : to.toInt = cN) (cn : cN < np) (ht : tm.toInt = tmN) (t64 : tmN ≤ 64) :
    ∃ (un n : Nat) (I1 Ir1 : Nat → Nat → Int32) (J1 Jr1 : Nat → Nat → Int64), xEv L xs (d + 3) 69 0 [.ref 53, .ref 17, .int (Ir 100 aN), .int to, .int tm, .int (I 16 aN), xmk, xmk, xmk, xmk] [] (124, I, J, R) none (124, I1, J1, R) ∧ xEv L xs (d' + 1) 189 0 [.ref 86, .int nw, .int to, .int tm, .int (Ir 98 aN), xmk, xmk, xmk, xmk, xmk, xmk, xmk] [] (124, Ir, Jr, Rr) none (124, Ir1, Jr1, Rr) ∧ tlF I I1 Ir Ir1 J J1 Jr Jr1 ∧ (I1 53 1).toInt = un ∧ 1 ≤ un ∧ un ≤ 9 ∧ cG J1 un ∧ rG Jr1 ∧ (∀ p, p < np → cV J1 un p = rV Jr1 p * tn (16 * (un - 1) - n)) := by
  have hV0 := hV
  obtain ⟨⟨p1, p2, p3⟩, p4, p5, p6, ⟨q1, q2⟩, ⟨q3, q4⟩, ⟨q5, q6⟩, q7, q8, q9, ⟨q10, q11⟩, q12, q13, q14, q15, q16, q17⟩ := hV
  have eca := clamp_s (i := nw) (by omega)
  have eka : nw.toNatClampNeg = aN := by omega
  obtain ⟨-, -, e13, -, -, -⟩ := q9 aN an
  have hu0 := q14 aN an
  rw [e13] at hu0
  have dle : dlN l (Ir 98 aN).toInt ≤ l.length := List.length_filter_le _ _
  obtain ⟨u, hu⟩ : ∃ u, I 16 aN = u := ⟨_, rfl⟩
  rw [hu] at hu0 ⊢
  have edg : (u - tm).toInt = u.toInt - tm.toInt := i_sub (by omega) (by omega)
  obtain ⟨I1, J1, un, s1, s2, s3, s4, s5, s6, s7, s8, s9, s10⟩ := qs_run (L := L) (xs := xs) (d := d + 1) (I := I) (J := J) hG (q := to) (dg := u - tm) hc (by omega) (by omega) (by omega)
  obtain ⟨Jr1, z1, z2, z3⟩ := qqc_run (L := L) (xs := xs) (d := d') (I := Ir) (J := Jr) hGr
  obtain ⟨k1, k2, k3⟩ := ix160 hc (by omega)
  obtain ⟨ur, xur, hur⟩ := tu_run (L := L) (xs := xs) (d := d') (I := uI Ir 86 40 0) (J := uL Jr1 108 (16 * cN) 1) hGr p5 (by rw [uI_n _ _ (by omega)]; exact q11) p4 (fun t a b hl => by rw [uI_n _ _ (by omega)]; exact (q12 t a b hl).2.1) (Ir 98 aN)
  have eur : ur = u := Int32.toInt_inj.mp (by rw [hu0, hur])
  subst eur
  have e0L : (0 : Int64).toInt = 0 := by decide
  have e1L : (1 : Int64).toInt = 1 := by decide
  have e1 : (1 : Int32).toInt = 1 := by decide
  have at0 : ∀ p i, p < 14 → i < 16 → ((uL Jr1 108 (16 * cN) 1) 108 (16 * p + i)).toInt = if p = cN ∧ i = 0 then 1 else 0 := fun p i hp hi => by
    by_cases g : p = cN ∧ i = 0
    · rw [if_pos g, g.1, g.2, Nat.add_zero, uL_s, e1L]
    · rw [if_neg g, uL_n _ _ (by omega), z3 _ (by omega), e0L]
  have gr : rG (uL Jr1 108 (16 * cN) 1) := fun p hp i hi => by
    rw [at0 p i hp hi]
    split <;> omega
  have rv0 : ∀ p, p < 7 → rV (uL Jr1 108 (16 * cN) 1) p = if p = cN then 1 else 0 := fun p hp => by
    have sp := sT_p (e := 9) (f := rF (uL Jr1 108 (16 * cN) 1) p) 1 15
    have z := sT_z (e := 9) (f := fun i => rF (uL Jr1 108 (16 * cN) 1) p (1 + i)) 0 15 (fun i _ hi => by
      show ((uL Jr1 108 (16 * cN) 1) 108 (16 * p + (1 + i))).toInt = 0
      rw [at0 _ _ (by omega) (by omega), if_neg (by omega)])
    rw [Nat.zero_add] at z
    have ez : sT 9 (fun i => rF (uL Jr1 108 (16 * cN) 1) p (1 + i)) 0 = 0 := sT_0 _ _
    have f0 : sT 9 (rF (uL Jr1 108 (16 * cN) 1) p) 1 = if p = cN then 1 else 0 := by
      rw [sT_1]
      show ((uL Jr1 108 (16 * cN) 1) 108 (16 * p + 0)).toInt = _
      rw [at0 _ _ (by omega) (by omega)]
      by_cases g : p = cN
      · rw [if_pos ⟨g, rfl⟩, if_pos g]
      · rw [if_neg (fun h => g h.1), if_neg g]
    show sT 9 (rF (uL Jr1 108 (16 * cN) 1) p) (1 + 15) = _
    rw [sp, z, ez, Int.mul_zero, Int.add_zero, f0]
  have start : ∀ p, p < np → cV J1 un p = rV (uL Jr1 108 (16 * cN) 1) p * tn (16 * (un - 1) - 0) ∧ rV (uL Jr1 108 (16 * cN) 1) p ≤ tn 0 := fun p hp => by
    rw [rv0 p (by omega), Nat.sub_zero, tn_0]
    by_cases g : p = cN
    · rw [if_pos g, g, s9, Int.one_mul]
      exact ⟨rfl, Int.le_refl _⟩
    · rw [if_neg g, s10 p (by omega) g, Int.zero_mul]
      exact ⟨rfl, by decide⟩
  have em1 : (ur - 1).toInt = ur.toInt - 1 := by rw [i_sub (by rw [e1]; omega) (by rw [e1]; omega), e1]
  have f40 : ∀ c k, ¬ (c = 86 ∧ k = 40) → (uI Ir 86 40 0) c k = Ir c k := fun c k hc => uI_n _ _ hc
  have fJ : ∀ c, c ≠ 108 → ∀ k, (uL Jr1 108 (16 * cN) 1) c k = Jr c k := fun c hc k => by rw [uL_n _ _ (fun h => hc h.1), z2 c k hc]
  have both : ∃ (n : Nat) (Ir' : Nat → Nat → Int32) (J' Jr' : Nat → Nat → Int64), xEv L xs (d + 3) 69 16 [.ref 53, .ref 17, .int (Ir 100 nw.toNatClampNeg), .int to, .int tm, .int ur, .int (ur - 1), xmk, xmk, xmk] [] (124, I1, J1, R) none (124, I1, J', R) ∧ xEv L xs (d' + 1) 189 24 [.ref 86, .int nw, .int to, .int tm, .int (Ir 98 aN), .int (ur - 1), xmk, xmk, xmk, xmk, xmk, xmk] [] (124, uI Ir 86 40 0, uL Jr1 108 (16 * cN) 1, Rr) none (124, Ir', Jr', Rr) ∧ (∀ c k, ¬ (c = 86 ∧ k = 40) → Ir' c k = Ir c k) ∧ (∀ c, c ≠ 54 → ∀ k, J' c k = J1 c k) ∧ (∀ c, c ≠ 108 → ∀ k, Jr' c k = Jr c k) ∧ cG J' un ∧ rG Jr' ∧ (∀ p, p < np → cV J' un p = rV Jr' p * tn (16 * (un - 1) - n) ∧ rV Jr' p ≤ tn n) := by
    by_cases hlt : ur.toInt ≤ tm.toInt
    · exact ⟨0, _, _, _, qb_e_3 hG (by omega), qqs_e hGr (by omega), f40, fun _ _ _ => rfl, fJ, s8, gr, start⟩
    · obtain ⟨n, hn⟩ := Int.eq_ofNat_of_zero_le (show 0 ≤ ur.toInt - tm.toInt by omega)
      obtain ⟨Ir', J', Jr', v1, v2, v3, v4, v5, v6, v7, v8⟩ := qlb_3 (L := L) (xs := xs) (d := d) (d' := d') hG hGr hV0 s2 hch (to := to) (tm := tm) (bh := ur) (nw := nw) (hr := Ir 98 aN) s4 s5 s6 ht (by omega) (by omega) n 0 (ur - 1) xmk xmk xmk xmk xmk xmk xmk xmk xmk (uI Ir 86 40 0) J1 (uL Jr1 108 (16 * cN) 1) (by omega) (by omega) (by omega) (by omega) f40 (by rw [uI_s]; decide) s8 gr start
      rw [Nat.zero_add] at v4 v8
      exact ⟨n, Ir', J', Jr', v1, v2, v3, v5, fun c hc k => by rw [v7.2 c hc k, fJ c hc k], v6, v7.1, v8⟩
  obtain ⟨n, Ir', J', Jr', v1, v2, v3, v4, v5, v6, v7, v8⟩ := both
  rw [eka] at v1
  exact ⟨un, n, I1, Ir', J', Jr', qb_s_3 hG s1 v1, qqs_s hGr z1 k1 k2 (by rw [k3]; exact xur) (by rw [k3]; exact v2), ⟨s2, fun c hc k => by rw [v4 c hc k, s3 c k hc], v3, v5⟩, s4, s5, s6, v6, v7, fun p hp => (v8 p hp).1⟩
theorem um_run_3 {L : Nat} {xs : Nat → Int32} {d : Nat} {I : Nat → Nat → Int32} {J : Nat → Nat → Int64} {R : Nat → Nat → Nat} {Ir : Nat → Nat → Int32} (hG : aGd R) {np nm nn : Nat} {l : List (Nat × Nat)} (hV : VR_3 np nm nn l I Ir) {n p q : Int32} {k pN qN : Nat} (hn : n.toInt = k) (kn : k < nn) (hp : p.toInt = pN) (pn : pN < np) (hq : q.toInt = qN) (qn : qN < np) : ∃ r : Int32, xEv L xs (d + 2) 127 0 [.ref 63, .ref 3, .int n, .int p, .int q] [] (124, I, J, R) (some (.int r)) (124, I, J, R) ∧ ((r = 1 ∧ mtP I Ir k pN qN p q) ∨ (r = 0 ∧ ¬ mtP I Ir k pN qN p q)) := by
  obtain ⟨⟨p1, p2, p3⟩, p4, p5, p6, ⟨q1, q2⟩, ⟨q3, q4⟩, ⟨q5, q6⟩, q7, q8, q9, ⟨q10, q11⟩, q12, q13, q14, q15, q16, q17⟩ := hV
  obtain ⟨-, e12, -, -, e15, -⟩ := q9 k kn
  have c1 := at_k (L := L) (xs := xs) (d := d + 1) (I := I) (J := J) (R := R) (c := 12) (m := 4) (fun _ => rfl) (by decide) hn (by omega)
  have c2 := at_k (L := L) (xs := xs) (d := d + 1) (I := I) (J := J) (R := R) (c := 15) (m := 4) (fun _ => rfl) (by decide) hn (by omega)
  have c5 := at_k (L := L) (xs := xs) (d := d + 1) (I := I) (J := J) (R := R) (c := 5) (m := 7) (fun _ => rfl) (by decide) hq (by omega)
  rw [e12] at c1
  rw [e15] at c2
  rw [(q7 qN qn).1] at c5
  have c3 := gp_run (L := L) (xs := xs) (d := d) (I := I) (J := J) (R := R) hG q
  obtain ⟨c, c4, hc⟩ := gb_run (L := L) (xs := xs) (d := d + 1) (I := I) (J := J) (R := R) hG (I 67) q
  have bp := tb_shr (x := I 66 6) hp (by omega)
  have bq := tb_shr (x := I 66 6) hq (by omega)
  have bb := tb_shr (x := Ir 100 k) hq (by omega)
  by_cases h1 : p = Ir 97 k
  · exact ⟨0, um0_3 hG c1 (by rw [h1]), Or.inr ⟨rfl, fun h => h.1 h1⟩⟩
  have h1' : p.toInt ≠ (Ir 97 k).toInt := fun h => h1 (Int32.toInt_inj.mp h)
  cases h2 : tb (I 66 6) pN with
  | false => exact ⟨0, um1_3 hG c1 h1' (by rw [bp, h2]; decide), Or.inr ⟨rfl, fun h => by rw [h.2.1] at h2; cases h2⟩⟩
  | true =>
    cases h3 : tb (I 66 6) qN with
    | false => exact ⟨0, um2_3 hG c1 h1' (by rw [bp, h2]; decide) (by rw [bq, h3]; decide), Or.inr ⟨rfl, fun h => by rw [h.2.2.1] at h3; cases h3⟩⟩
    | true =>
      cases h4 : tb (Ir 100 k) qN with
      | true => exact ⟨0, um3_3 hG c1 h1' (by rw [bp, h2]; decide) (by rw [bq, h3]; decide) c2 (by rw [bb, h4]; decide), Or.inr ⟨rfl, fun h => by rw [h.2.2.2.1] at h4; cases h4⟩⟩
      | false =>
        by_cases h5 : (pcN (I 67) q 4 : Int) < (Ir 90 qN).toInt
        · exact ⟨1, um5_3 hG c1 h1' (by rw [bp, h2]; decide) (by rw [bq, h3]; decide) c2 (by rw [bb, h4]; decide) c3 c4 c5 (by omega), Or.inl ⟨rfl, h1, h2, h3, h4, h5⟩⟩
        · exact ⟨0, um4_3 hG c1 h1' (by rw [bp, h2]; decide) (by rw [bq, h3]; decide) c2 (by rw [bb, h4]; decide) c3 c4 c5 (by omega), Or.inr ⟨rfl, fun h => h5 h.2.2.2.2⟩⟩
/-- the class's soonest, whoever asks -/
theorem sol1_23 {L : Nat} {xs : Nat → Int32} {d : Nat} {I Ir : Nat → Nat → Int32} {J : Nat → Nat → Int64} {R : Nat → Nat → Nat} (hG : aGd R) {np nm nn : Nat} {l : List (Nat × Nat)} (hV : VR_23 np nm nn l I Ir) {b fr to tm : Int32} {z : Nat} (hto : to.toInt = z) (hz : z < np) : ∀ (f n : Nat) (x t : Int32) (w7 : Value), n + f = l.length → t.toInt = n →
    ∃ r : Int32, xEv L xs (d + 2) 66 9 [.ref 37, .int b, .int fr, .int to, .int tm, .int x, .int t, w7] [] (124, I, J, R) (some (.int r)) (124, I, J, R) := by
  have hV0 := hV
  obtain ⟨⟨p1, p2, p3⟩, p4, p5, p6, ⟨q1, q2⟩, ⟨q3, q4⟩, ⟨q5, q6⟩, q7, q8, q9, ⟨q10, q11⟩, q12, q13, q14, q15, q16, q17⟩ := hV
  intro f
  induction f with
  | zero =>
    intro n x t w7 hn ht
    exact ⟨-1, sC_e_23 hG (by omega)⟩
  | succ f ih =>
    intro n x t w7 hn ht
    obtain ⟨m, hm, -, e1, e2, e3, e4, g1, g2, g3, g4, g5⟩ := tmz_23 hV0 (t := n) (by omega)
    have ec := clamp_s (i := t) (by omega)
    have ekt : t.toNatClampNeg = n := by omega
    have ht' : (t + 1).toInt = (n + 1 : Nat) := by rw [i_add1 (by omega)]; omega
    have at1 : ∀ c, (∀ g : FieldType → Nat → Option xR, xarr (124, I, J, R) c g = g .int 64) → ∀ d, xEv L xs d 39 0 [.ref c, .int t] [] (124, I, J, R) (some (.int (I c n))) (124, I, J, R) := by
      intro c ho d
      have h4 := at_run (L := L) (xs := xs) (d := d) (h := (124, I, J, R)) ho (by decide) t
      rw [if_pos ⟨by omega, by omega⟩, ekt] at h4
      exact h4
    have c1 := at1 40 (fun _ => rfl) (d + 1)
    have c2 := at1 41 (fun _ => rfl) (d + 1)
    have c3 := at1 42 (fun _ => rfl) d
    rw [e2] at c1
    rw [e3] at c2
    rw [e4] at c3
    by_cases hs : (Ir 95 m).toInt = 10
    · have k1 := cS_1_23 (L := L) (xs := xs) (I := I) (J := J) hG c3 hs
      obtain ⟨a, ha⟩ := Int.eq_ofNat_of_zero_le g1
      obtain ⟨c, hc⟩ := Int.eq_ofNat_of_zero_le g3
      have hS := sG_c (b := b) (x := x) ha hc (by omega) (by omega)
      have hsh : ∀ y : Int32, (y >>> (to &&& 31)) &&& 1 = (if tb y z then 1 else 0) := fun y => tb_shr hto (by omega)
      by_cases hp : x &&& ((1 <<< (Ir 92 m &&& 31)) ||| (1 <<< (Ir 93 m &&& 31))) = 0
      · obtain ⟨r, x1⟩ := ih (n + 1) x (t + 1) (.int ((1 <<< (Ir 92 m &&& 31)) ||| (1 <<< (Ir 93 m &&& 31)))) (by omega) ht'
        exact ⟨r, sC_0_23 hG (by omega) c1 c2 k1 (by rw [hp]; decide) x1⟩
      · have hp' : (x &&& ((1 <<< (Ir 92 m &&& 31)) ||| (1 <<< (Ir 93 m &&& 31)))).toInt ≠ 0 := fun h => hp (Int32.toInt_inj.mp h)
        cases hy : tb (sG b x (Ir 92 m) (Ir 93 m) a c) z with
        | true => exact ⟨t, sC_2_23 hG (by omega) c1 c2 k1 hp' (by rw [← hS.2 hp, hsh, hy]; decide)⟩
        | false =>
          obtain ⟨r, x1⟩ := ih (n + 1) (sG b x (Ir 92 m) (Ir 93 m) a c) (t + 1) (.int ((1 <<< (Ir 92 m &&& 31)) ||| (1 <<< (Ir 93 m &&& 31)))) (by omega) ht'
          exact ⟨r, sC_1_23 hG (by omega) c1 c2 k1 hp' (by rw [← hS.2 hp, hsh, hy]; decide) (by rw [← hS.2 hp]; exact x1)⟩
    · have k1 := cS_0_23 (L := L) (xs := xs) (I := I) (J := J) hG c3 hs
      obtain ⟨r, x1⟩ := ih (n + 1) x (t + 1) (.int ((1 <<< (Ir 92 m &&& 31)) ||| (1 <<< (Ir 93 m &&& 31)))) (by omega) ht'
      exact ⟨r, sC_n_23 hG (by omega) c1 c2 k1 x1⟩
theorem soo1_23 {L : Nat} {xs : Nat → Int32} {d : Nat} {I Ir : Nat → Nat → Int32} {J : Nat → Nat → Int64} {R : Nat → Nat → Nat} (hG : aGd R) {np nm nn : Nat} {l : List (Nat × Nat)} (hV : VR_23 np nm nn l I Ir) {b fr to tm : Int32} (h2 : 0 ≤ to.toInt ∧ to.toInt < np) (h3 : 0 ≤ tm.toInt ∧ tm.toInt ≤ l.length) :
    ∃ r : Int32, xEv L xs (d + 2) 66 0 [.ref 37, .int b, .int fr, .int to, .int tm, xmk, xmk, xmk] [] (124, I, J, R) (some (.int r)) (124, I, J, R) := by
  obtain ⟨z, hz⟩ := Int.eq_ofNat_of_zero_le h2.1
  obtain ⟨n, hn⟩ := Int.eq_ofNat_of_zero_le h3.1
  obtain ⟨r, x1⟩ := sol1_23 (L := L) (xs := xs) (d := d) (J := J) hG hV (b := b) (fr := fr) (to := to) (tm := tm) hz (by omega) (l.length - n) n (1 <<< (fr &&& 31)) tm xmk (by omega) hn
  exact ⟨r, sC_s_23 hG x1⟩
/-- both look back from a piece's hour -/
theorem lb2_23 {L : Nat} {xs : Nat → Int32} {d d' : Nat} {I Ir : Nat → Nat → Int32} {J Jr : Nat → Nat → Int64} {R Rr : Nat → Nat → Nat} (hG : aGd R) (hGr : aGd Rr) {np nm nn : Nat} {l : List (Nat × Nat)} (hV : VR_23 np nm nn l I Ir) (hch : ∀ q, q < 16 → 0 ≤ (Ir 95 q).toInt ∧ (Ir 95 q).toInt ≤ 10) {nw to tm : Int32} {aN cN tmN : Nat} (ha : nw.toInt = aN) (an : aN < nn) (hc : to.toInt = cN) (cn : cN < np) (ht : tm.toInt = tmN) (t64 : tmN ≤ 64) :
    ∃ (un n : Nat) (I1 Ir1 : Nat → Nat → Int32) (J1 Jr1 : Nat → Nat → Int64), xEv L xs (d + 3) 69 0 [.ref 53, .ref 37, .int (Ir 100 aN), .int to, .int tm, .int (I 36 aN), xmk, xmk, xmk, xmk] [] (124, I, J, R) none (124, I1, J1, R) ∧ xEv L xs (d' + 1) 189 0 [.ref 86, .int nw, .int to, .int tm, .int (Ir 98 aN), xmk, xmk, xmk, xmk, xmk, xmk, xmk] [] (124, Ir, Jr, Rr) none (124, Ir1, Jr1, Rr) ∧ tlF I I1 Ir Ir1 J J1 Jr Jr1 ∧ (I1 53 1).toInt = un ∧ 1 ≤ un ∧ un ≤ 9 ∧ cG J1 un ∧ rG Jr1 ∧ (∀ p, p < np → cV J1 un p = rV Jr1 p * tn (16 * (un - 1) - n)) := by
  have hV0 := hV
  obtain ⟨⟨p1, p2, p3⟩, p4, p5, p6, ⟨q1, q2⟩, ⟨q3, q4⟩, ⟨q5, q6⟩, q7, q8, q9, ⟨q10, q11⟩, q12, q13, q14, q15, q16, q17⟩ := hV
  have eca := clamp_s (i := nw) (by omega)
  have eka : nw.toNatClampNeg = aN := by omega
  obtain ⟨-, -, e13, -, -, -⟩ := q9 aN an
  have hu0 := q14 aN an
  rw [e13] at hu0
  have dle : dlN l (Ir 98 aN).toInt ≤ l.length := List.length_filter_le _ _
  obtain ⟨u, hu⟩ : ∃ u, I 36 aN = u := ⟨_, rfl⟩
  rw [hu] at hu0 ⊢
  have edg : (u - tm).toInt = u.toInt - tm.toInt := i_sub (by omega) (by omega)
  obtain ⟨I1, J1, un, s1, s2, s3, s4, s5, s6, s7, s8, s9, s10⟩ := qs_run (L := L) (xs := xs) (d := d + 1) (I := I) (J := J) hG (q := to) (dg := u - tm) hc (by omega) (by omega) (by omega)
  obtain ⟨Jr1, z1, z2, z3⟩ := qqc_run (L := L) (xs := xs) (d := d') (I := Ir) (J := Jr) hGr
  obtain ⟨k1, k2, k3⟩ := ix160 hc (by omega)
  obtain ⟨ur, xur, hur⟩ := tu_run (L := L) (xs := xs) (d := d') (I := uI Ir 86 40 0) (J := uL Jr1 108 (16 * cN) 1) hGr p5 (by rw [uI_n _ _ (by omega)]; exact q11) p4 (fun t a b hl => by rw [uI_n _ _ (by omega)]; exact (q12 t a b hl).2.1) (Ir 98 aN)
  have eur : ur = u := Int32.toInt_inj.mp (by rw [hu0, hur])
  subst eur
  have e0L : (0 : Int64).toInt = 0 := by decide
  have e1L : (1 : Int64).toInt = 1 := by decide
  have e1 : (1 : Int32).toInt = 1 := by decide
  have at0 : ∀ p i, p < 14 → i < 16 → ((uL Jr1 108 (16 * cN) 1) 108 (16 * p + i)).toInt = if p = cN ∧ i = 0 then 1 else 0 := fun p i hp hi => by
    by_cases g : p = cN ∧ i = 0
    · rw [if_pos g, g.1, g.2, Nat.add_zero, uL_s, e1L]
    · rw [if_neg g, uL_n _ _ (by omega), z3 _ (by omega), e0L]
  have gr : rG (uL Jr1 108 (16 * cN) 1) := fun p hp i hi => by
    rw [at0 p i hp hi]
    split <;> omega
  have rv0 : ∀ p, p < 7 → rV (uL Jr1 108 (16 * cN) 1) p = if p = cN then 1 else 0 := fun p hp => by
    have sp := sT_p (e := 9) (f := rF (uL Jr1 108 (16 * cN) 1) p) 1 15
    have z := sT_z (e := 9) (f := fun i => rF (uL Jr1 108 (16 * cN) 1) p (1 + i)) 0 15 (fun i _ hi => by
      show ((uL Jr1 108 (16 * cN) 1) 108 (16 * p + (1 + i))).toInt = 0
      rw [at0 _ _ (by omega) (by omega), if_neg (by omega)])
    rw [Nat.zero_add] at z
    have ez : sT 9 (fun i => rF (uL Jr1 108 (16 * cN) 1) p (1 + i)) 0 = 0 := sT_0 _ _
    have f0 : sT 9 (rF (uL Jr1 108 (16 * cN) 1) p) 1 = if p = cN then 1 else 0 := by
      rw [sT_1]
      show ((uL Jr1 108 (16 * cN) 1) 108 (16 * p + 0)).toInt = _
      rw [at0 _ _ (by omega) (by omega)]
      by_cases g : p = cN
      · rw [if_pos ⟨g, rfl⟩, if_pos g]
      · rw [if_neg (fun h => g h.1), if_neg g]
    show sT 9 (rF (uL Jr1 108 (16 * cN) 1) p) (1 + 15) = _
    rw [sp, z, ez, Int.mul_zero, Int.add_zero, f0]
  have start : ∀ p, p < np → cV J1 un p = rV (uL Jr1 108 (16 * cN) 1) p * tn (16 * (un - 1) - 0) ∧ rV (uL Jr1 108 (16 * cN) 1) p ≤ tn 0 := fun p hp => by
    rw [rv0 p (by omega), Nat.sub_zero, tn_0]
    by_cases g : p = cN
    · rw [if_pos g, g, s9, Int.one_mul]
      exact ⟨rfl, Int.le_refl _⟩
    · rw [if_neg g, s10 p (by omega) g, Int.zero_mul]
      exact ⟨rfl, by decide⟩
  have em1 : (ur - 1).toInt = ur.toInt - 1 := by rw [i_sub (by rw [e1]; omega) (by rw [e1]; omega), e1]
  have f40 : ∀ c k, ¬ (c = 86 ∧ k = 40) → (uI Ir 86 40 0) c k = Ir c k := fun c k hc => uI_n _ _ hc
  have fJ : ∀ c, c ≠ 108 → ∀ k, (uL Jr1 108 (16 * cN) 1) c k = Jr c k := fun c hc k => by rw [uL_n _ _ (fun h => hc h.1), z2 c k hc]
  have both : ∃ (n : Nat) (Ir' : Nat → Nat → Int32) (J' Jr' : Nat → Nat → Int64), xEv L xs (d + 3) 69 16 [.ref 53, .ref 37, .int (Ir 100 nw.toNatClampNeg), .int to, .int tm, .int ur, .int (ur - 1), xmk, xmk, xmk] [] (124, I1, J1, R) none (124, I1, J', R) ∧ xEv L xs (d' + 1) 189 24 [.ref 86, .int nw, .int to, .int tm, .int (Ir 98 aN), .int (ur - 1), xmk, xmk, xmk, xmk, xmk, xmk] [] (124, uI Ir 86 40 0, uL Jr1 108 (16 * cN) 1, Rr) none (124, Ir', Jr', Rr) ∧ (∀ c k, ¬ (c = 86 ∧ k = 40) → Ir' c k = Ir c k) ∧ (∀ c, c ≠ 54 → ∀ k, J' c k = J1 c k) ∧ (∀ c, c ≠ 108 → ∀ k, Jr' c k = Jr c k) ∧ cG J' un ∧ rG Jr' ∧ (∀ p, p < np → cV J' un p = rV Jr' p * tn (16 * (un - 1) - n) ∧ rV Jr' p ≤ tn n) := by
    by_cases hlt : ur.toInt ≤ tm.toInt
    · exact ⟨0, _, _, _, qb_e_23 hG (by omega), qqs_e hGr (by omega), f40, fun _ _ _ => rfl, fJ, s8, gr, start⟩
    · obtain ⟨n, hn⟩ := Int.eq_ofNat_of_zero_le (show 0 ≤ ur.toInt - tm.toInt by omega)
      obtain ⟨Ir', J', Jr', v1, v2, v3, v4, v5, v6, v7, v8⟩ := qlb_23 (L := L) (xs := xs) (d := d) (d' := d') hG hGr hV0 s2 hch (to := to) (tm := tm) (bh := ur) (nw := nw) (hr := Ir 98 aN) s4 s5 s6 ht (by omega) (by omega) n 0 (ur - 1) xmk xmk xmk xmk xmk xmk xmk xmk xmk (uI Ir 86 40 0) J1 (uL Jr1 108 (16 * cN) 1) (by omega) (by omega) (by omega) (by omega) f40 (by rw [uI_s]; decide) s8 gr start
      rw [Nat.zero_add] at v4 v8
      exact ⟨n, Ir', J', Jr', v1, v2, v3, v5, fun c hc k => by rw [v7.2 c hc k, fJ c hc k], v6, v7.1, v8⟩
  obtain ⟨n, Ir', J', Jr', v1, v2, v3, v4, v5, v6, v7, v8⟩ := both
  rw [eka] at v1
  exact ⟨un, n, I1, Ir', J', Jr', qb_s_23 hG s1 v1, qqs_s hGr z1 k1 k2 (by rw [k3]; exact xur) (by rw [k3]; exact v2), ⟨s2, fun c hc k => by rw [v4 c hc k, s3 c k hc], v3, v5⟩, s4, s5, s6, v6, v7, fun p hp => (v8 p hp).1⟩
theorem um_run_23 {L : Nat} {xs : Nat → Int32} {d : Nat} {I : Nat → Nat → Int32} {J : Nat → Nat → Int64} {R : Nat → Nat → Nat} {Ir : Nat → Nat → Int32} (hG : aGd R) {np nm nn : Nat} {l : List (Nat × Nat)} (hV : VR_23 np nm nn l I Ir) {n p q : Int32} {k pN qN : Nat} (hn : n.toInt = k) (kn : k < nn) (hp : p.toInt = pN) (pn : pN < np) (hq : q.toInt = qN) (qn : qN < np) : ∃ r : Int32, xEv L xs (d + 2) 127 0 [.ref 63, .ref 23, .int n, .int p, .int q] [] (124, I, J, R) (some (.int r)) (124, I, J, R) ∧ ((r = 1 ∧ mtP I Ir k pN qN p q) ∨ (r = 0 ∧ ¬ mtP I Ir k pN qN p q)) := by
  obtain ⟨⟨p1, p2, p3⟩, p4, p5, p6, ⟨q1, q2⟩, ⟨q3, q4⟩, ⟨q5, q6⟩, q7, q8, q9, ⟨q10, q11⟩, q12, q13, q14, q15, q16, q17⟩ := hV
  obtain ⟨-, e12, -, -, e15, -⟩ := q9 k kn
  have c1 := at_k (L := L) (xs := xs) (d := d + 1) (I := I) (J := J) (R := R) (c := 32) (m := 4) (fun _ => rfl) (by decide) hn (by omega)
  have c2 := at_k (L := L) (xs := xs) (d := d + 1) (I := I) (J := J) (R := R) (c := 35) (m := 4) (fun _ => rfl) (by decide) hn (by omega)
  have c5 := at_k (L := L) (xs := xs) (d := d + 1) (I := I) (J := J) (R := R) (c := 25) (m := 7) (fun _ => rfl) (by decide) hq (by omega)
  rw [e12] at c1
  rw [e15] at c2
  rw [(q7 qN qn).1] at c5
  have c3 := gp_run (L := L) (xs := xs) (d := d) (I := I) (J := J) (R := R) hG q
  obtain ⟨c, c4, hc⟩ := gb_run (L := L) (xs := xs) (d := d + 1) (I := I) (J := J) (R := R) hG (I 67) q
  have bp := tb_shr (x := I 66 6) hp (by omega)
  have bq := tb_shr (x := I 66 6) hq (by omega)
  have bb := tb_shr (x := Ir 100 k) hq (by omega)
  by_cases h1 : p = Ir 97 k
  · exact ⟨0, um0_23 hG c1 (by rw [h1]), Or.inr ⟨rfl, fun h => h.1 h1⟩⟩
  have h1' : p.toInt ≠ (Ir 97 k).toInt := fun h => h1 (Int32.toInt_inj.mp h)
  cases h2 : tb (I 66 6) pN with
  | false => exact ⟨0, um1_23 hG c1 h1' (by rw [bp, h2]; decide), Or.inr ⟨rfl, fun h => by rw [h.2.1] at h2; cases h2⟩⟩
  | true =>
    cases h3 : tb (I 66 6) qN with
    | false => exact ⟨0, um2_23 hG c1 h1' (by rw [bp, h2]; decide) (by rw [bq, h3]; decide), Or.inr ⟨rfl, fun h => by rw [h.2.2.1] at h3; cases h3⟩⟩
    | true =>
      cases h4 : tb (Ir 100 k) qN with
      | true => exact ⟨0, um3_23 hG c1 h1' (by rw [bp, h2]; decide) (by rw [bq, h3]; decide) c2 (by rw [bb, h4]; decide), Or.inr ⟨rfl, fun h => by rw [h.2.2.2.1] at h4; cases h4⟩⟩
      | false =>
        by_cases h5 : (pcN (I 67) q 4 : Int) < (Ir 90 qN).toInt
        · exact ⟨1, um5_23 hG c1 h1' (by rw [bp, h2]; decide) (by rw [bq, h3]; decide) c2 (by rw [bb, h4]; decide) c3 c4 c5 (by omega), Or.inl ⟨rfl, h1, h2, h3, h4, h5⟩⟩
        · exact ⟨0, um4_23 hG c1 h1' (by rw [bp, h2]; decide) (by rw [bq, h3]; decide) c2 (by rw [bb, h4]; decide) c3 c4 c5 (by omega), Or.inr ⟨rfl, fun h => h5 h.2.2.2.2⟩⟩
