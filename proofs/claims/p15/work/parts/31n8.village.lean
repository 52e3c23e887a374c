/-- the times are those of the hours -/
def hrS (nm : Nat) (l : List (Nat × Nat)) (Ir : Nat → Nat → Int32) : Prop := l = tOut (fun k => (Ir 94 k).toInt) nm 96 ∧ ∀ k, k < nm → 0 ≤ (Ir 94 k).toInt ∧ (Ir 94 k).toInt ≤ 23
theorem hrS_e {nm : Nat} {l : List (Nat × Nat)} {Ir Ir1 : Nat → Nat → Int32} (h : hrS nm l Ir) (e : ∀ k, Ir1 94 k = Ir 94 k) : hrS nm l Ir1 := by
  have x : Ir1 94 = Ir 94 := funext e
  unfold hrS
  rw [x]
  exact h
theorem z1_24 : ∀ k : Nat, k < 24 → c1 (k : Int) 24 = 1 := by decide +kernel
theorem z24 {f : Nat → Int} : ∀ M, (∀ k, k < M → 0 ≤ f k ∧ f k ≤ 23) → cOut f M 24 = M
  | 0, _ => cOut_0 f 24
  | M + 1, h => by
    have b := h M (by omega)
    obtain ⟨k, hk⟩ := Int.eq_ofNat_of_zero_le b.1
    have c := z1_24 k (by omega)
    rw [cOut_s, z24 M (fun k hk => h k (by omega)), hk, c]
theorem zI_24 (f : Nat → Int) (U : Nat) : ∀ M, tIn f (U + 24) M = (tIn f U M).map (fun p => (p.1 + 24, p.2))
  | 0 => rfl
  | m + 1 => by
    show tIn f (U + 24) m ++ (if f m = (((U + 24) % 24 : Nat) : Int) then [(U + 24, m)] else []) = List.map (fun p => (p.1 + 24, p.2)) (tIn f U m ++ (if f m = ((U % 24 : Nat) : Int) then [(U, m)] else []))
    rw [List.map_append, zI_24 f U m, Nat.add_mod_right]
    by_cases e : f m = ((U % 24 : Nat) : Int)
    · rw [if_pos e, if_pos e]
      rfl
    · rw [if_neg e, if_neg e]
      rfl
theorem zO_24 (f : Nat → Int) (M : Nat) : ∀ U, tOut f M (U + 24) = tOut f M 24 ++ (tOut f M U).map (fun p => (p.1 + 24, p.2))
  | 0 => by
    rw [Nat.zero_add]
    show tOut f M 24 = tOut f M 24 ++ List.map _ []
    rw [List.map_nil, List.append_nil]
  | U + 1 => by
    show tOut f M (U + 24) ++ tIn f (U + 24) M = tOut f M 24 ++ List.map (fun p => (p.1 + 24, p.2)) (tOut f M U ++ tIn f U M)
    rw [zO_24 f M U, zI_24, List.map_append, List.append_assoc]
theorem zO_p (f : Nat → Int) (M U : Nat) : ∀ k, ∃ r, tOut f M (U + k) = tOut f M U ++ r
  | 0 => ⟨[], by rw [List.append_nil]; rfl⟩
  | k + 1 => by
    obtain ⟨r, hr⟩ := zO_p f M U k
    refine ⟨r ++ tIn f (U + k) M, ?_⟩
    show tOut f M (U + k) ++ tIn f (U + k) M = _
    rw [hr, List.append_assoc]
/-- days are alike -/
theorem zO_d {f : Nat → Int} {M : Nat} (hf : ∀ k, k < M → 0 ≤ f k ∧ f k ≤ 23) {t a b : Nat} (ht : t + M < (tOut f M 96).length) (h : (tOut f M 96)[t]? = some (a, b)) : (tOut f M 96)[t + M]? = some (a + 24, b) := by
  have l24 : (tOut f M 24).length = M := by rw [tOut_l, z24 M hf]
  have e : tOut f M 96 = tOut f M 24 ++ (tOut f M 72).map (fun p => (p.1 + 24, p.2)) := zO_24 f M 72
  obtain ⟨r, hr⟩ := zO_p f M 72 24
  have hr' : tOut f M 96 = tOut f M 72 ++ r := hr
  have ll : (tOut f M 96).length = M + (tOut f M 72).length := by rw [e, List.length_append, List.length_map, l24]
  rw [hr', List.getElem?_append_left (by omega)] at h
  rw [e, List.getElem?_append_right (by omega), l24, Nat.add_sub_cancel, List.getElem?_map, h]
  rfl
theorem cIn_u (f : Nat → Int) (z : Int) (m : Nat) : cIn f z (m + 1) = cIn f z m + (if f m = z then 1 else 0) := rfl
/-- the class's village -/
def zWf_3 (I : Nat → Nat → Int32) : zW := (((I 3 16).toNatClampNeg, (I 3 14).toNatClampNeg, (I 17 5).toNatClampNeg), ((fun t => (I 20 t).toNatClampNeg), (fun t => (I 21 t).toNatClampNeg), fun t => (I 22 t).toInt = 10), ((fun p => (I 5 p).toNatClampNeg), fun n p => tb (I 15 n) p), ((fun n => (I 11 n).toNatClampNeg), (fun n => (I 12 n).toNatClampNeg), (fun n => (I 14 n).toInt), fun n => (I 16 n).toNatClampNeg))
theorem zmk_3 {np nm nn : Nat} {l : List (Nat × Nat)} {I Ir : Nat → Nat → Int32} (hV : VR_3 np nm nn l I Ir) (hh : hrS nm l Ir) (h90 : ∀ q, q < 7 → (Ir 90 q).toInt ≤ 3) (h99 : ∀ q, q < 4 → 0 ≤ (Ir 99 q).toInt ∧ (Ir 99 q).toInt ≤ 99) : (zN (zWf_3 I) = nn ∧ zP (zWf_3 I) = np ∧ zT (zWf_3 I) = l.length) ∧ zK (zWf_3 I) ∧ zV (zWf_3 I) (zE (zWf_3 I)) ∧ (∀ p, p < zP (zWf_3 I) → zH (zWf_3 I) p ≤ 3) ∧ (∀ n, n < zN (zWf_3 I) → zL (zWf_3 I) n ≤ 64) ∧ zD (zWf_3 I) nm ∧ zCl_3 (zWf_3 I) nm I ∧ zRf (zWf_3 I) Ir := by
  obtain ⟨⟨p1, p2, p3⟩, p4, p5, p6, ⟨q1, q2⟩, ⟨q3, q4⟩, ⟨q5, q6⟩, q7, q8, q9, ⟨q10, q11⟩, q12, q13, q14, q15, q16, q17⟩ := hV
  obtain ⟨hl, hf⟩ := hh
  obtain ⟨w, hw⟩ : ∃ w, zWf_3 I = w := ⟨_, rfl⟩
  have ec1 := clamp_s (i := I 3 16) (by omega)
  have ec2 := clamp_s (i := I 3 14) (by omega)
  have ec3 := clamp_s (i := I 17 5) (by omega)
  have eN : zN w = nn := by rw [← hw]; show (I 3 16).toNatClampNeg = nn; omega
  have eP : zP w = np := by rw [← hw]; show (I 3 14).toNatClampNeg = np; omega
  have eT : zT w = l.length := by rw [← hw]; show (I 17 5).toNatClampNeg = l.length; omega
  have lk : ∀ t, t < l.length → ∃ a b, l[t]? = some (a, b) ∧ b < nm := fun t ht => by
    obtain ⟨⟨a, b⟩, hab⟩ : ∃ x, l[t]? = some x := ⟨_, List.getElem?_eq_getElem ht⟩
    exact ⟨a, b, hab, (p6 (a, b) (List.mem_of_getElem? hab)).2⟩
  have tA : ∀ t, (zA w t) = (I 20 t).toNatClampNeg := fun t => by rw [← hw]; rfl
  have tB : ∀ t, (zB w t) = (I 21 t).toNatClampNeg := fun t => by rw [← hw]; rfl
  have tU : ∀ t, zU w t ↔ (I 22 t).toInt = 10 := fun t => by rw [← hw]; exact Iff.rfl
  have tH : ∀ p, zH w p = (I 5 p).toNatClampNeg := fun t => by rw [← hw]; rfl
  have tR : ∀ n p, zR w n p = tb (I 15 n) p := fun n p => by rw [← hw]; rfl
  have tF : ∀ n, zF w n = (I 11 n).toNatClampNeg := fun t => by rw [← hw]; rfl
  have tO : ∀ n, zO w n = (I 12 n).toNatClampNeg := fun t => by rw [← hw]; rfl
  have tX : ∀ n, zX w n = (I 14 n).toInt := fun t => by rw [← hw]; rfl
  have tL : ∀ n, zL w n = (I 16 n).toNatClampNeg := fun t => by rw [← hw]; rfl
  have times : ∀ t, t < l.length → ∃ a b, l[t]? = some (a, b) ∧ b < nm ∧ (Ir 101 t).toInt = b ∧ I 20 t = Ir 92 b ∧ I 21 t = Ir 93 b ∧ I 22 t = Ir 95 b ∧ 0 ≤ (Ir 92 b).toInt ∧ (Ir 92 b).toInt < np ∧ 0 ≤ (Ir 93 b).toInt ∧ (Ir 93 b).toInt < np ∧ (Ir 92 b).toInt ≠ (Ir 93 b).toInt := fun t ht => by
    obtain ⟨a, b, hab, hb⟩ := lk t ht
    obtain ⟨-, -, -, e4, e5, e6, e7⟩ := q12 t a b hab
    obtain ⟨o1, o2, -, -⟩ := q8 b hb
    obtain ⟨m1, m2, m3, m4, m5⟩ := q15 b hb
    rw [o1, o2] at m5
    rw [o1] at m1 m2
    rw [o2] at m3 m4
    exact ⟨a, b, hab, hb, e4, e5, e6, e7, m1, m2, m3, m4, m5⟩
  have nws : ∀ n, n < nn → (I 11 n).toInt = zF w n ∧ (I 12 n).toInt = zO w n ∧ (I 16 n).toInt = zL w n ∧ zF w n < np ∧ zO w n < np ∧ zF w n ≠ zO w n ∧ 0 ≤ zX w n ∧ zX w n ≤ 99 := fun n hn => by
    obtain ⟨f1, f2, f3, f4, f5⟩ := q16 n hn
    have d0 := q14 n hn
    have x1 := clamp_s (i := I 11 n) f1
    have x2 := clamp_s (i := I 12 n) f3
    have x3 := clamp_s (i := I 16 n) (by omega)
    obtain ⟨-, -, -, o4, -, -⟩ := q9 n hn
    have b99 := h99 n (by omega)
    rw [tF, tO, tX, tL, o4]
    exact ⟨by omega, by omega, by omega, by omega, by omega, by omega, b99.1, b99.2⟩
  have hK : zK w := by
    refine ⟨by omega, by omega, by omega, fun t ht => ?_, fun n hn => ?_⟩
    · obtain ⟨a, b, -, -, -, e5, e6, -, m1, m2, m3, m4, m5⟩ := times t (by omega)
      have x1 := clamp_s (i := Ir 92 b) m1
      have x2 := clamp_s (i := Ir 93 b) m3
      rw [tA, tB, e5, e6, eP]
      omega
    · obtain ⟨-, -, -, a1, a2, a3, a4, a5⟩ := nws n (by omega)
      exact ⟨by omega, by omega, a3, a4, a5⟩
  have hol : ∀ p, p < np → (I 5 p).toInt = zH w p ∧ zH w p ≤ 3 := fun p hp => by
    have a := (q17 p hp).1
    have x1 := clamp_s (i := I 5 p) (by omega)
    have e := (q7 p hp).1
    have b := h90 p (by omega)
    rw [← e] at b
    rw [tH]
    omega
  have cnt : ∀ (p k : Nat), k ≤ nn → zqs w (zE w) p k = cIn (fun i => (I 11 i).toInt) (p : Int) k := fun p k => by
    induction k with
    | zero => intro _; rfl
    | succ k ih =>
      intro hk
      rw [zqs_s, cIn_u, ih (by omega)]
      have e := zE_d hK (show k < 4 by omega)
      rw [if_pos (by omega)] at e
      have a := (nws k (by omega)).1
      by_cases g : zF w k = p
      · rw [zq_1 (by omega) (by omega), if_pos (by omega)]
      · rw [zq_2 (by omega), if_neg (by omega)]
  rw [hw]
  refine ⟨⟨eN, eP, eT⟩, hK, ⟨zE_I hK, fun n hn => ?_, fun p hp => ?_⟩, fun p hp => (hol p (by omega)).2, fun n hn => ?_, ⟨fun h => ?_, fun t ht => ?_⟩, ⟨⟨by omega, by omega, q3, by omega⟩, fun t ht => ?_, fun p hp => (hol p (by omega)).1, fun n hn => ?_⟩, ⟨by omega, by omega, by omega⟩, fun t ht => ?_, fun p hp => ?_, fun n hn => ?_⟩
  · rw [zE_d hK (by omega), if_pos hn]
    have := (nws n (by omega)).2.2.2.1
    omega
  · rw [← zqs_h (by omega), eN, cnt p nn (Nat.le_refl _)]
    have a := (q17 p (by omega)).2
    have b := (hol p (by omega)).1
    omega
  · have d0 := q14 n (by omega)
    have a := (nws n (by omega)).2.2.1
    have b : dlN l (I 13 n).toInt ≤ l.length := List.length_filter_le _ _
    omega
  · obtain ⟨a, b, -, hb, -⟩ := times 0 (by omega)
    omega
  · obtain ⟨a, b, hab, hb, -, e5, e6, e7, -⟩ := times t (by omega)
    have hab2 : l[t + nm]? = some (a + 24, b) := by
      have ht' : t + nm < l.length := by omega
      rw [hl] at hab ht' ⊢
      exact zO_d hf ht' hab
    obtain ⟨-, -, -, -, f5, f6, f7⟩ := q12 (t + nm) (a + 24) b hab2
    rw [tA, tA, tB, tB, tU, tU, e5, e6, e7, f5, f6, f7]
    exact ⟨rfl, rfl, Iff.rfl⟩
  · obtain ⟨a, b, -, -, -, e5, e6, -, m1, m2, m3, m4, m5⟩ := times t (by omega)
    have x1 := clamp_s (i := Ir 92 b) m1
    have x2 := clamp_s (i := Ir 93 b) m3
    rw [tA, tB, tU, e5, e6]
    exact ⟨by omega, by omega, Iff.rfl⟩
  · obtain ⟨a1, a2, a3, -⟩ := nws n (by omega)
    exact ⟨a1, a2, (tX n).symm, a3, fun p _ => (tR n p).symm⟩
  · obtain ⟨a, b, -, hb, e4, e5, e6, e7, m1, m2, m3, m4, m5⟩ := times t (by omega)
    have x1 := clamp_s (i := Ir 92 b) m1
    have x2 := clamp_s (i := Ir 93 b) m3
    refine ⟨b, by omega, e4, ?_, ?_, ?_⟩
    · rw [tA, e5]; omega
    · rw [tB, e6]; omega
    · rw [tU, e7]
  · rw [← (q7 p (by omega)).1]
    exact (hol p (by omega)).1
  · obtain ⟨a1, a2, a3, -⟩ := nws n (by omega)
    obtain ⟨o1, o2, -, o4, o5, o6⟩ := q9 n (by omega)
    rw [← o1, ← o2, ← o4, ← o5, ← o6]
    exact ⟨a1, a2, (tX n).symm, a3, fun p _ => (tR n p).symm⟩
/-- the class's village -/
def zWf_23 (I : Nat → Nat → Int32) : zW := (((I 23 16).toNatClampNeg, (I 23 14).toNatClampNeg, (I 37 5).toNatClampNeg), ((fun t => (I 40 t).toNatClampNeg), (fun t => (I 41 t).toNatClampNeg), fun t => (I 42 t).toInt = 10), ((fun p => (I 25 p).toNatClampNeg), fun n p => tb (I 35 n) p), ((fun n => (I 31 n).toNatClampNeg), (fun n => (I 32 n).toNatClampNeg), (fun n => (I 34 n).toInt), fun n => (I 36 n).toNatClampNeg))
theorem zmk_23 {np nm nn : Nat} {l : List (Nat × Nat)} {I Ir : Nat → Nat → Int32} (hV : VR_23 np nm nn l I Ir) (hh : hrS nm l Ir) (h90 : ∀ q, q < 7 → (Ir 90 q).toInt ≤ 3) (h99 : ∀ q, q < 4 → 0 ≤ (Ir 99 q).toInt ∧ (Ir 99 q).toInt ≤ 99) : (zN (zWf_23 I) = nn ∧ zP (zWf_23 I) = np ∧ zT (zWf_23 I) = l.length) ∧ zK (zWf_23 I) ∧ zV (zWf_23 I) (zE (zWf_23 I)) ∧ (∀ p, p < zP (zWf_23 I) → zH (zWf_23 I) p ≤ 3) ∧ (∀ n, n < zN (zWf_23 I) → zL (zWf_23 I) n ≤ 64) ∧ zD (zWf_23 I) nm ∧ zCl_23 (zWf_23 I) nm I ∧ zRf (zWf_23 I) Ir := by
  obtain ⟨⟨p1, p2, p3⟩, p4, p5, p6, ⟨q1, q2⟩, ⟨q3, q4⟩, ⟨q5, q6⟩, q7, q8, q9, ⟨q10, q11⟩, q12, q13, q14, q15, q16, q17⟩ := hV
  obtain ⟨hl, hf⟩ := hh
  obtain ⟨w, hw⟩ : ∃ w, zWf_23 I = w := ⟨_, rfl⟩
  have ec1 := clamp_s (i := I 23 16) (by omega)
  have ec2 := clamp_s (i := I 23 14) (by omega)
  have ec3 := clamp_s (i := I 37 5) (by omega)
  have eN : zN w = nn := by rw [← hw]; show (I 23 16).toNatClampNeg = nn; omega
  have eP : zP w = np := by rw [← hw]; show (I 23 14).toNatClampNeg = np; omega
  have eT : zT w = l.length := by rw [← hw]; show (I 37 5).toNatClampNeg = l.length; omega
  have lk : ∀ t, t < l.length → ∃ a b, l[t]? = some (a, b) ∧ b < nm := fun t ht => by
    obtain ⟨⟨a, b⟩, hab⟩ : ∃ x, l[t]? = some x := ⟨_, List.getElem?_eq_getElem ht⟩
    exact ⟨a, b, hab, (p6 (a, b) (List.mem_of_getElem? hab)).2⟩
  have tA : ∀ t, (zA w t) = (I 40 t).toNatClampNeg := fun t => by rw [← hw]; rfl
  have tB : ∀ t, (zB w t) = (I 41 t).toNatClampNeg := fun t => by rw [← hw]; rfl
  have tU : ∀ t, zU w t ↔ (I 42 t).toInt = 10 := fun t => by rw [← hw]; exact Iff.rfl
  have tH : ∀ p, zH w p = (I 25 p).toNatClampNeg := fun t => by rw [← hw]; rfl
  have tR : ∀ n p, zR w n p = tb (I 35 n) p := fun n p => by rw [← hw]; rfl
  have tF : ∀ n, zF w n = (I 31 n).toNatClampNeg := fun t => by rw [← hw]; rfl
  have tO : ∀ n, zO w n = (I 32 n).toNatClampNeg := fun t => by rw [← hw]; rfl
  have tX : ∀ n, zX w n = (I 34 n).toInt := fun t => by rw [← hw]; rfl
  have tL : ∀ n, zL w n = (I 36 n).toNatClampNeg := fun t => by rw [← hw]; rfl
  have times : ∀ t, t < l.length → ∃ a b, l[t]? = some (a, b) ∧ b < nm ∧ (Ir 101 t).toInt = b ∧ I 40 t = Ir 92 b ∧ I 41 t = Ir 93 b ∧ I 42 t = Ir 95 b ∧ 0 ≤ (Ir 92 b).toInt ∧ (Ir 92 b).toInt < np ∧ 0 ≤ (Ir 93 b).toInt ∧ (Ir 93 b).toInt < np ∧ (Ir 92 b).toInt ≠ (Ir 93 b).toInt := fun t ht => by
    obtain ⟨a, b, hab, hb⟩ := lk t ht
    obtain ⟨-, -, -, e4, e5, e6, e7⟩ := q12 t a b hab
    obtain ⟨o1, o2, -, -⟩ := q8 b hb
    obtain ⟨m1, m2, m3, m4, m5⟩ := q15 b hb
    rw [o1, o2] at m5
    rw [o1] at m1 m2
    rw [o2] at m3 m4
    exact ⟨a, b, hab, hb, e4, e5, e6, e7, m1, m2, m3, m4, m5⟩
  have nws : ∀ n, n < nn → (I 31 n).toInt = zF w n ∧ (I 32 n).toInt = zO w n ∧ (I 36 n).toInt = zL w n ∧ zF w n < np ∧ zO w n < np ∧ zF w n ≠ zO w n ∧ 0 ≤ zX w n ∧ zX w n ≤ 99 := fun n hn => by
    obtain ⟨f1, f2, f3, f4, f5⟩ := q16 n hn
    have d0 := q14 n hn
    have x1 := clamp_s (i := I 31 n) f1
    have x2 := clamp_s (i := I 32 n) f3
    have x3 := clamp_s (i := I 36 n) (by omega)
    obtain ⟨-, -, -, o4, -, -⟩ := q9 n hn
    have b99 := h99 n (by omega)
    rw [tF, tO, tX, tL, o4]
    exact ⟨by omega, by omega, by omega, by omega, by omega, by omega, b99.1, b99.2⟩
  have hK : zK w := by
    refine ⟨by omega, by omega, by omega, fun t ht => ?_, fun n hn => ?_⟩
    · obtain ⟨a, b, -, -, -, e5, e6, -, m1, m2, m3, m4, m5⟩ := times t (by omega)
      have x1 := clamp_s (i := Ir 92 b) m1
      have x2 := clamp_s (i := Ir 93 b) m3
      rw [tA, tB, e5, e6, eP]
      omega
    · obtain ⟨-, -, -, a1, a2, a3, a4, a5⟩ := nws n (by omega)
      exact ⟨by omega, by omega, a3, a4, a5⟩
  have hol : ∀ p, p < np → (I 25 p).toInt = zH w p ∧ zH w p ≤ 3 := fun p hp => by
    have a := (q17 p hp).1
    have x1 := clamp_s (i := I 25 p) (by omega)
    have e := (q7 p hp).1
    have b := h90 p (by omega)
    rw [← e] at b
    rw [tH]
    omega
  have cnt : ∀ (p k : Nat), k ≤ nn → zqs w (zE w) p k = cIn (fun i => (I 31 i).toInt) (p : Int) k := fun p k => by
    induction k with
    | zero => intro _; rfl
    | succ k ih =>
      intro hk
      rw [zqs_s, cIn_u, ih (by omega)]
      have e := zE_d hK (show k < 4 by omega)
      rw [if_pos (by omega)] at e
      have a := (nws k (by omega)).1
      by_cases g : zF w k = p
      · rw [zq_1 (by omega) (by omega), if_pos (by omega)]
      · rw [zq_2 (by omega), if_neg (by omega)]
  rw [hw]
  refine ⟨⟨eN, eP, eT⟩, hK, ⟨zE_I hK, fun n hn => ?_, fun p hp => ?_⟩, fun p hp => (hol p (by omega)).2, fun n hn => ?_, ⟨fun h => ?_, fun t ht => ?_⟩, ⟨⟨by omega, by omega, q3, by omega⟩, fun t ht => ?_, fun p hp => (hol p (by omega)).1, fun n hn => ?_⟩, ⟨by omega, by omega, by omega⟩, fun t ht => ?_, fun p hp => ?_, fun n hn => ?_⟩
  · rw [zE_d hK (by omega), if_pos hn]
    have := (nws n (by omega)).2.2.2.1
    omega
  · rw [← zqs_h (by omega), eN, cnt p nn (Nat.le_refl _)]
    have a := (q17 p (by omega)).2
    have b := (hol p (by omega)).1
    omega
  · have d0 := q14 n (by omega)
    have a := (nws n (by omega)).2.2.1
    have b : dlN l (I 33 n).toInt ≤ l.length := List.length_filter_le _ _
    omega
  · obtain ⟨a, b, -, hb, -⟩ := times 0 (by omega)
    omega
  · obtain ⟨a, b, hab, hb, -, e5, e6, e7, -⟩ := times t (by omega)
    have hab2 : l[t + nm]? = some (a + 24, b) := by
      have ht' : t + nm < l.length := by omega
      rw [hl] at hab ht' ⊢
      exact zO_d hf ht' hab
    obtain ⟨-, -, -, -, f5, f6, f7⟩ := q12 (t + nm) (a + 24) b hab2
    rw [tA, tA, tB, tB, tU, tU, e5, e6, e7, f5, f6, f7]
    exact ⟨rfl, rfl, Iff.rfl⟩
  · obtain ⟨a, b, -, -, -, e5, e6, -, m1, m2, m3, m4, m5⟩ := times t (by omega)
    have x1 := clamp_s (i := Ir 92 b) m1
    have x2 := clamp_s (i := Ir 93 b) m3
    rw [tA, tB, tU, e5, e6]
    exact ⟨by omega, by omega, Iff.rfl⟩
  · obtain ⟨a1, a2, a3, -⟩ := nws n (by omega)
    exact ⟨a1, a2, (tX n).symm, a3, fun p _ => (tR n p).symm⟩
  · obtain ⟨a, b, -, hb, e4, e5, e6, e7, m1, m2, m3, m4, m5⟩ := times t (by omega)
    have x1 := clamp_s (i := Ir 92 b) m1
    have x2 := clamp_s (i := Ir 93 b) m3
    refine ⟨b, by omega, e4, ?_, ?_, ?_⟩
    · rw [tA, e5]; omega
    · rw [tB, e6]; omega
    · rw [tU, e7]
  · rw [← (q7 p (by omega)).1]
    exact (hol p (by omega)).1
  · obtain ⟨a1, a2, a3, -⟩ := nws n (by omega)
    obtain ⟨o1, o2, -, o4, o5, o6⟩ := q9 n (by omega)
    rw [← o1, ← o2, ← o4, ← o5, ← o6]
    exact ⟨a1, a2, (tX n).symm, a3, fun p _ => (tR n p).symm⟩
