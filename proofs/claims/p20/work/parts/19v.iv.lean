/-! texts, greatest and least, rows copied -/
section BC
variable {L : Nat} {xs : Nat → Int32} {d j : Nat} {h0 : aE} {base : aK → Int} {pc : Nat} {alv ast r : List aV} {fs : aFs} {tr : aTr} {lv st s : List Value} {h : xH} {l : List (Nat × aS)} {S : aS}
theorem txt_s {k : Nat} (hk : aTxt k = true) : ∃ n, k = n + 2 ∧ n < 7 := by
  unfold aTxt at hk
  rw [Bool.and_eq_true] at hk
  have h1 : 2 ≤ k := Nat.le_of_ble_eq_true hk.1
  have h2 : k < 9 := Nat.le_of_ble_eq_true hk.2
  exact ⟨k - 2, by omega, by omega⟩
theorem j_length {i0 len b w : Nat} (hd : aDep j ≤ d) (hq : xins (aJ j) pc = some (.invokevirtual i0, len, 902, b, w)) (ha : aS_invokevirtual j len 902 b pc (alv, ast, fs, tr) = some l) (hs : aSt j h0 base (alv, ast, fs, tr) lv st h) (kk : ∀ s ∈ l, ∀ lv1 st1 h1, aSt j h0 base s.2 lv1 st1 h1 → aT L xs d j h0 s.1 lv1 st1 h1) : aT L xs d j h0 pc lv st h := by
  obtain ⟨hg, hf, hL, hS, hF, hT⟩ := hs
  unfold aS_invokevirtual at ha
  dsimp only at ha hL hS hF hT
  obtain ⟨hl, ha0⟩ := aIf_s ha
  clear ha
  have hlen : len = 3 := Nat.eq_of_beq_eq_true hl
  subst hlen
  have hb9 : Nat.ble 900 902 = true := rfl
  rw [hb9] at ha0
  dsimp only [cond_true] at ha0
  obtain ⟨hd4, ha1⟩ := aIf_s ha0
  have hd5 : 4 ≤ aDep j := Nat.le_of_ble_eq_true hd4
  have hb2 : Nat.beq 902 902 = true := rfl
  rw [hb2] at ha1
  dsimp only [cond_true] at ha1
  have ha2 := ha1
  clear ha1 ha0
  cases ast with
  | nil => cases ha2
  | cons a0 r =>
    rcases a0 with _ | ⟨lo, hi, o⟩ | ⟨lo, hi⟩ | cs | ks
    · cases ha2
    · cases ha2
    · cases ha2
    · cases ha2
    · obtain ⟨c, s, rfl, hcs, hS2⟩ := s_txt hS
      obtain ⟨h1, h2⟩ := aIf_s ha2
      rw [Bool.and_eq_true, Bool.and_eq_true, List.all_eq_true] at h1
      obtain ⟨n, rfl, hn⟩ := txt_s (h1.1.1 c hcs)
      have hsum := gs_cat _ _ hS2 h1.1.2
      have n3 : aSumC r ≤ 8 := Nat.le_of_ble_eq_true h1.2
      have hx := (s_all n hn).1
      have e : (Int32.ofNat (xslen n)).toInt = (xslen n : Nat) := Int32.toInt_ofNat_of_lt hx
      have hh := hull_s (f := fun k => (((xslen (k - 2) : Nat) : Int), ((xslen (k - 2) : Nat) : Int))) hcs
      refine aT_step (pc1 := pc + 3) (lv1 := lv) (st1 := .int (Int32.ofNat (xslen n)) :: s) (h1 := h) hq ?_ (kk _ (aGo_s h2) _ _ _ ⟨hg, hf, hL, ⟨⟨_, rfl, by rw [e]; exact hh.1, by rw [e]; exact hh.2, trivial⟩, hS2⟩, hF, hT⟩)
      show x1 3 3 (if d < 4 then none else (if n < 7 then (if (s.map fun v => v.category).sum ≤ 8 then _ else _) else _)) = _
      rw [if_neg (by omega), if_pos hn, if_pos (by rw [hsum]; exact n3)]
      rfl
theorem j_charAt {i0 len b w : Nat} (hd : aDep j ≤ d) (hq : xins (aJ j) pc = some (.invokevirtual i0, len, 903, b, w)) (ha : aS_invokevirtual j len 903 b pc (alv, ast, fs, tr) = some l) (hs : aSt j h0 base (alv, ast, fs, tr) lv st h) (kk : ∀ s ∈ l, ∀ lv1 st1 h1, aSt j h0 base s.2 lv1 st1 h1 → aT L xs d j h0 s.1 lv1 st1 h1) : aT L xs d j h0 pc lv st h := by
  obtain ⟨hg, hf, hL, hS, hF, hT⟩ := hs
  unfold aS_invokevirtual at ha
  dsimp only at ha hL hS hF hT
  obtain ⟨hl, ha0⟩ := aIf_s ha
  clear ha
  have hlen : len = 3 := Nat.eq_of_beq_eq_true hl
  subst hlen
  have hb9 : Nat.ble 900 903 = true := rfl
  rw [hb9] at ha0
  dsimp only [cond_true] at ha0
  obtain ⟨hd4, ha1⟩ := aIf_s ha0
  have hd5 : 4 ≤ aDep j := Nat.le_of_ble_eq_true hd4
  have hb2 : Nat.beq 903 902 = false := rfl
  have hb3 : Nat.beq 903 903 = true := rfl
  rw [hb2, hb3] at ha1
  dsimp only [cond_true, cond_false] at ha1
  have ha2 := ha1
  clear ha1 ha0
  split at ha2
  · rename_i a0 a1' o ks r
    obtain ⟨i, s1, rfl, u1, u2, -, hS1⟩ := s_int hS
    obtain ⟨c, s, rfl, hcs, hS2⟩ := s_txt hS1
    obtain ⟨h1, h2⟩ := aIf_s ha2
    rw [Bool.and_eq_true, Bool.and_eq_true, List.all_eq_true] at h1
    have h3 := h1.1.1 c hcs
    rw [Bool.and_eq_true, Bool.and_eq_true] at h3
    obtain ⟨n, rfl, hn⟩ := txt_s h3.1.1
    have b1 := ai_le.mp h3.1.2
    have b2 : a1' + 1 ≤ ((xslen n : Nat) : Int) := ai_le.mp h3.2
    have hsum := gs_cat _ _ hS2 h1.1.2
    have n3 : aSumC r ≤ 8 := Nat.le_of_ble_eq_true h1.2
    have hi0 : 0 ≤ i.toInt := by omega
    have hcl := clamp_s hi0
    have hx := (s_all n hn).2 i.toNatClampNeg (by show i.toNatClampNeg < xslen n; omega)
    refine aT_step (pc1 := pc + 3) (lv1 := lv) (st1 := .int (xsch n i.toNatClampNeg) :: s) (h1 := h) hq ?_ (kk _ (aGo_s h2) _ _ _ ⟨hg, hf, hL, ⟨?_, hS2⟩, hF, hT⟩)
    · show x1 3 3 (if d < 4 then none else (if n < 7 then (if (s.map fun v => v.category).sum ≤ 8 then _ else _) else _)) = _
      rw [if_neg (by omega), if_pos hn, if_pos (by rw [hsum]; exact n3), xin_ok hi0 (by omega)]
      rfl
    · have hful : aG lv h (Sum.inr (Sum.inl (0, 255, none))) (.int (xsch n i.toNatClampNeg)) := ⟨_, rfl, hx.1, by have h9 : (xsch n i.toNatClampNeg).toInt < 128 := hx.2; omega, trivial⟩
      unfold aChar
      split
      · rename_i k0
        have ek := List.mem_singleton.mp hcs
        subst ek
        cases hab : aieq a0 a1' with
        | true =>
          have e1 := ai_eq.mp hab
          have e2 : a0.toNat = i.toNatClampNeg := by omega
          rw [e2]
          exact g_num _
        | false => exact hful
      · exact hful
  · cases ha2
theorem mx_s {x y : Int32} : (if x < y then y else x).toInt = amax x.toInt y.toInt := by
  unfold amax aile
  by_cases h1 : x < y
  · have h2 := Int32.lt_iff_toInt_lt.mp h1
    rw [if_pos h1, decide_eq_true (by omega)]
    rfl
  · have h2 : ¬ x.toInt < y.toInt := fun z => h1 (Int32.lt_iff_toInt_lt.mpr z)
    rw [if_neg h1]
    by_cases h3 : x.toInt ≤ y.toInt
    · rw [decide_eq_true h3]
      show x.toInt = y.toInt
      omega
    · rw [decide_eq_false h3]
      rfl
theorem mn_s {x y : Int32} : (if y < x then y else x).toInt = amin x.toInt y.toInt := by
  unfold amin aile
  by_cases h1 : y < x
  · have h2 := Int32.lt_iff_toInt_lt.mp h1
    rw [if_pos h1, decide_eq_false (by omega)]
    rfl
  · have h2 : ¬ y.toInt < x.toInt := fun z => h1 (Int32.lt_iff_toInt_lt.mpr z)
    rw [if_neg h1, decide_eq_true (by omega)]
    rfl
theorem amax_m {a b x y : Int} (h1 : a ≤ x) (h2 : b ≤ y) : amax a b ≤ amax x y := amax_g (Int.le_trans h1 (amax_l _ _)) (Int.le_trans h2 (amax_r _ _))
theorem amin_m {a b x y : Int} (h1 : a ≤ x) (h2 : b ≤ y) : amin a b ≤ amin x y := amin_g (Int.le_trans (amin_l _ _) h1) (Int.le_trans (amin_r _ _) h2)
theorem j_mxmn {i0 len ja b w : Nat} (hja : ja = 904 ∨ ja = 905) (hd : aDep j ≤ d) (hq : xins (aJ j) pc = some (.invokestatic i0, len, ja, b, w)) (ha : aS_invokestatic j len ja b pc (alv, ast, fs, tr) = some l) (hs : aSt j h0 base (alv, ast, fs, tr) lv st h) (kk : ∀ s ∈ l, ∀ lv1 st1 h1, aSt j h0 base s.2 lv1 st1 h1 → aT L xs d j h0 s.1 lv1 st1 h1) : aT L xs d j h0 pc lv st h := by
  obtain ⟨hg, hf, hL, hS, hF, hT⟩ := hs
  unfold aS_invokestatic at ha
  dsimp only at ha hL hS hF hT
  obtain ⟨hl, ha0⟩ := aIf_s ha
  clear ha
  have hlen : len = 3 := Nat.eq_of_beq_eq_true hl
  subst hlen
  have hb9 : Nat.ble 900 ja = true := by rcases hja with rfl | rfl <;> rfl
  have hb4 : (Nat.beq ja 904 || Nat.beq ja 905) = true := by rcases hja with rfl | rfl <;> rfl
  rw [hb9] at ha0
  dsimp only [cond_true] at ha0
  obtain ⟨hd4, ha1⟩ := aIf_s ha0
  have hd5 : 1 ≤ aDep j := Nat.le_of_ble_eq_true hd4
  rw [hb4] at ha1
  dsimp only [cond_true] at ha1
  have ha2 := ha1
  clear ha1 ha0
  split at ha2
  · rename_i c0 c1 o' a0 a1' o r
    obtain ⟨y, s1, rfl, v1, v2, -, hS1⟩ := s_int hS
    obtain ⟨x, s, rfl, u1, u2, -, hS2⟩ := s_int hS1
    obtain ⟨h1, h2⟩ := aIf_s ha2
    rw [Bool.and_eq_true] at h1
    have hsum := gs_cat _ _ hS2 h1.1
    have n3 : aSumC r ≤ 8 := Nat.le_of_ble_eq_true h1.2
    rcases hja with rfl | rfl
    · refine aT_step (pc1 := pc + 3) (lv1 := lv) (st1 := .int (if x < y then y else x) :: s) (h1 := h) hq ?_ (kk _ (aGo_s h2) _ _ _ ⟨hg, hf, hL, ⟨⟨_, rfl, by rw [mx_s]; exact amax_m u1 v1, by rw [mx_s]; exact amax_m u2 v2, trivial⟩, hS2⟩, hF, hT⟩)
      show x1 3 3 (if d = 0 then none else (if (s.map fun v => v.category).sum ≤ 8 then _ else _)) = _
      rw [if_neg (by omega), if_pos (by rw [hsum]; exact n3)]
      rfl
    · refine aT_step (pc1 := pc + 3) (lv1 := lv) (st1 := .int (if y < x then y else x) :: s) (h1 := h) hq ?_ (kk _ (aGo_s h2) _ _ _ ⟨hg, hf, hL, ⟨⟨_, rfl, by rw [mn_s]; exact amin_m u1 v1, by rw [mn_s]; exact amin_m u2 v2, trivial⟩, hS2⟩, hF, hT⟩)
      show x1 3 3 (if d = 0 then none else (if (s.map fun v => v.category).sum ≤ 8 then _ else _)) = _
      rw [if_neg (by omega), if_pos (by rw [hsum]; exact n3)]
      rfl
  · cases ha2
theorem cpy_st {h' : xH} {bs : List Nat} {b : Nat} (hb : b ∈ bs) (hI : ∀ c k, c ≠ b → h'.2.1 c k = h.2.1 c k) (hLn : ∀ c k, c ≠ b → h'.2.2.1 c k = h.2.2.1 c k) (hR : h'.2.2.2 = h.2.2.2) (h1 : h'.1 = h.1) (hrow : ∀ k, aHas b k → aIn2 (aRng b k) (h'.2.1 b k)) (hm : ∀ k, aisMod (aMod j) (Sum.inr (b, k)) = true) (hg : aGood h) (hf : aFr (aMod j) h0.1 h) (hL : aLs alv lv) (hS : aGs lv h r s) (hF : aFok h fs) (hT : aTs (base, h0) lv h tr) : aSt j h0 base (alv, r.map (aDo (aisRow bs)), aFdel (fun c' k' => aisRow bs (Sum.inr (c', k'))) fs, aLose (aisRow bs) tr) lv s h' := by
  have ne : ∀ c k, aisRow bs (Sum.inr (c, k)) = false → c ≠ b := fun c k hc e => by
    have : amem c bs = false := hc
    rw [e, amem_c hb] at this
    cases this
  have keep : aKeep (aisRow bs) lv h lv h' := by
    refine ⟨?_, fun _ _ _ => rfl⟩
    intro x w hx hc
    rcases x with i | ⟨c, k⟩
    · exact hc
    · show some (h'.2.1 c k).toInt = some w
      rw [hI c k (ne c k hx)]
      exact hc
  refine ⟨⟨h1.trans hg.1, ?_, ?_⟩, ?_, hL, k_gs keep _ _ hS, ?_, k_ts keep hT⟩
  · intro c k hh
    by_cases e : c = b
    · subst e
      exact hrow k hh
    · rw [hI c k e]
      exact hg.2.1 c k hh
  · rw [hR]
    exact hg.2.2
  · intro c k hck
    have e : c ≠ b := fun z => by rw [z, hm k] at hck; cases hck
    obtain ⟨a1, a2, a3⟩ := hf c k hck
    exact ⟨(hI c k e).trans a1, (hLn c k e).trans a2, by rw [hR]; exact a3⟩
  · show aFok h' (aFdel (fun c' k' => aisRow bs (Sum.inr (c', k'))) fs)
    refine fok_del hF ?_
    intro c k hck
    exact ⟨hI c k (ne c k hck), by rw [hR]⟩
theorem cpyOk_s {cs : List Nat} {ok : FieldType → Bool} {a b m : Int} {c : Nat} (h : aCpyOk cs ok a b m = true) (hc : c ∈ cs) : ∃ t n, c < 124 ∧ xsh c = some (.inr (t, n)) ∧ ok t = true ∧ 0 ≤ a ∧ b + m ≤ (n : Int) := by
  unfold aCpyOk at h
  rw [List.all_eq_true] at h
  obtain ⟨t, n, h1, h2, h3, h4⟩ := aArr_s (h c hc)
  rw [Bool.and_eq_true] at h4
  exact ⟨t, n, h1, h2, h3, ai_le.mp h4.1, ai_le.mp h4.2⟩
theorem va_up_ne' {α : Type} {f : Nat → α} {k i : Nat} {v : α} (h : i ≠ k) : va_up f k v i = f i := va_up_ne _ _ h
theorem j_copy {i0 len b w : Nat} (ht : aTab) (hd : aDep j ≤ d) (hq : xins (aJ j) pc = some (.invokestatic i0, len, 901, b, w)) (ha : aS_invokestatic j len 901 b pc (alv, ast, fs, tr) = some l) (hs : aSt j h0 base (alv, ast, fs, tr) lv st h) (kk : ∀ s ∈ l, ∀ lv1 st1 h1, aSt j h0 base s.2 lv1 st1 h1 → aT L xs d j h0 s.1 lv1 st1 h1) : aT L xs d j h0 pc lv st h := by
  obtain ⟨hg, hf, hL, hS, hF, hT⟩ := hs
  unfold aS_invokestatic at ha
  dsimp only at ha hL hS hF hT
  obtain ⟨hl, ha0⟩ := aIf_s ha
  clear ha
  have hlen : len = 3 := Nat.eq_of_beq_eq_true hl
  subst hlen
  have hb9 : Nat.ble 900 901 = true := rfl
  rw [hb9] at ha0
  dsimp only [cond_true] at ha0
  obtain ⟨hd4, ha1⟩ := aIf_s ha0
  have hd5 : 1 ≤ aDep j := Nat.le_of_ble_eq_true hd4
  have hb2 : Nat.beq 901 904 = false := rfl
  have hb3 : Nat.beq 901 905 = false := rfl
  have hb4 : Nat.beq 901 901 = true := rfl
  have hb5 : (Nat.beq 901 904 || Nat.beq 901 905) = false := rfl
  rw [hb5, hb4] at ha1
  dsimp only [cond_true, cond_false] at ha1
  have ha2 := ha1
  clear ha1 ha0
  unfold aS_copy at ha2
  dsimp only at ha2
  split at ha2
  · rename_i n0 n1 on d0 d1 od bs s0 s1 os as r
    obtain ⟨n, t1, rfl, p1, p2, -, hS1⟩ := s_int hS
    obtain ⟨dp, t2, rfl, p3, p4, -, hS2⟩ := s_int hS1
    obtain ⟨cb, t3, rfl, hcb, hS3⟩ := s_ref hS2
    obtain ⟨sp, t4, rfl, p5, p6, -, hS4⟩ := s_int hS3
    obtain ⟨ca, s, rfl, hca, hS5⟩ := s_ref hS4
    obtain ⟨h1, h2⟩ := aIf_s ha2
    clear ha2
    rw [Bool.and_eq_true, Bool.and_eq_true, Bool.and_eq_true, Bool.and_eq_true, List.all_eq_true (l := bs), List.all_eq_true (l := as)] at h1
    obtain ⟨⟨⟨⟨q1, q2⟩, q3⟩, q4⟩, q5⟩ := h1
    have hsum := gs_cat _ _ hS5 q1
    have k2 : aSumC r ≤ 8 := Nat.le_of_ble_eq_true q2
    have k3 := ai_le.mp q3
    have k4 := q4 cb hcb
    rw [Bool.and_eq_true] at k4
    have hfi := not_s k4.1
    have k5 := List.all_eq_true.mp (q5 ca hca) cb hcb
    have fin : ∀ (okb : FieldType → Bool), aCpyOk as okb s0 s1 n1 = true → aCpyOk bs okb d0 d1 n1 = true → (okb = xisI ∨ okb = xisJ) → aGo (pc + 3) (alv, r.map (aDo (aisRow bs)), aFdel (fun c' k' => aisRow bs (Sum.inr (c', k'))) fs, aLose (aisRow bs) tr) = some l → aT L xs d j h0 pc lv (.int n :: .int dp :: .ref cb :: .int sp :: .ref ca :: s) h := by
      intro okb e1 e2 e3 e4
      obtain ⟨ta, na, a1, a2, a3, a4, a5⟩ := cpyOk_s e1 hca
      obtain ⟨tb, nb, b1, b2, b3, b4, b5⟩ := cpyOk_s e2 hcb
      have z1 : 0 ≤ n.toInt := by omega
      have z2 : 0 ≤ dp.toInt := by omega
      have z3 : 0 ≤ sp.toInt := by omega
      have c1 := clamp_s z1
      have c2 := clamp_s z2
      have c3 := clamp_s z3
      have hm : ∀ k, aisMod (aMod j) (Sum.inr (cb, k)) = true := fun k => by
        show Nat.testBit (aMod j) (aPid cb k) = true
        rw [ht.2.2 cb k tb nb b2 hfi]
        exact k4.2
      have neg : ∀ {x : Int32}, 0 ≤ x.toInt → ¬ x < 0 := fun hx z => by
        have := Int32.lt_iff_toInt_lt.mp z
        have e : (0 : Int32).toInt = 0 := rfl
        omega
      have hno : ¬ (sp < 0 ∨ dp < 0 ∨ n < 0 ∨ na < sp.toNatClampNeg + n.toNatClampNeg ∨ nb < dp.toNatClampNeg + n.toNatClampNeg) := by
        rintro (z | z | z | z | z)
        · exact neg z3 z
        · exact neg z2 z
        · exact neg z1 z
        · omega
        · omega
      have step : ∀ h', (bif xisI ta && xisI tb then xgo (pc + 3) lv s (xcpyI h ca cb sp.toNatClampNeg dp.toNatClampNeg n.toNatClampNeg) else bif xisJ ta && xisJ tb then xgo (pc + 3) lv s (xcpyL h ca cb sp.toNatClampNeg dp.toNatClampNeg n.toNatClampNeg) else none) = xgo (pc + 3) lv s h' → xstep L xs d (aJ j) (.invokestatic i0, 3, 901, b, w) pc lv (.int n :: .int dp :: .ref cb :: .int sp :: .ref ca :: s) h = some (.inl (pc + 3, lv, s, h')) := by
        intro h' e
        show x1 3 3 (if d = 0 then none else xcopy pc lv (.int n :: .int dp :: .ref cb :: .int sp :: .ref ca :: s) h) = _
        rw [if_neg (by omega)]
        show x1 3 3 (if h.1 = xN then (if (s.map fun v => v.category).sum ≤ 8 then xarr h ca _ else none) else none) = _
        rw [if_pos (show h.1 = xN from hg.1), if_pos (by rw [hsum]; exact k2), xarr_ok hg a1 a2, xarr_ok hg b1 b2, if_neg hno, e]
        rfl
      rcases e3 with rfl | rfl
      · refine aT_step (pc1 := pc + 3) (lv1 := lv) (st1 := s) (h1 := xcpyI h ca cb sp.toNatClampNeg dp.toNatClampNeg n.toNatClampNeg) hq (step _ (by rw [a3, b3]; rfl)) ?_
        refine kk _ (aGo_s e4) _ _ _ (cpy_st (h := h) (h' := xcpyI h ca cb sp.toNatClampNeg dp.toNatClampNeg n.toNatClampNeg) hcb ?_ (fun _ _ _ => rfl) rfl rfl ?_ hm hg hf hL hS5 hF hT)
        · intro c k hc
          show va_up h.2.1 cb _ c k = _
          rw [va_up_ne' hc]
        · intro k hh
          show aIn2 (aRng cb k) (va_up h.2.1 cb (va_cpy (h.2.1 ca) (h.2.1 cb) sp.toNatClampNeg dp.toNatClampNeg n.toNatClampNeg) cb k)
          rw [va_up_self]
          unfold va_cpy
          split
          · rename_i hk
            have hhas : aHas ca (sp.toNatClampNeg + (k - dp.toNatClampNeg)) := by unfold aHas; rw [a2]; show _ < na; omega
            have g1 := hg.2.1 ca _ hhas
            have g2 := sub2_s (ht.2.1 ca (sp.toNatClampNeg + (k - dp.toNatClampNeg)) ta na a2) g1.1 g1.2
            rw [ht.1 cb k tb nb b2 hfi]
            exact sub2_s k5 g2.1 g2.2
          · exact hg.2.1 cb k hh
      · have nI : ∀ {t : FieldType}, xisJ t = true → xisI t = false := fun {t} z => by cases t <;> first | rfl | cases z
        refine aT_step (pc1 := pc + 3) (lv1 := lv) (st1 := s) (h1 := xcpyL h ca cb sp.toNatClampNeg dp.toNatClampNeg n.toNatClampNeg) hq (step _ (by rw [nI a3, a3, b3]; rfl)) ?_
        refine kk _ (aGo_s e4) _ _ _ (cpy_st (h := h) (h' := xcpyL h ca cb sp.toNatClampNeg dp.toNatClampNeg n.toNatClampNeg) hcb (fun _ _ _ => rfl) ?_ rfl rfl (fun k hh => hg.2.1 cb k hh) hm hg hf hL hS5 hF hT)
        intro c k hc
        show va_up h.2.2.1 cb _ c k = _
        rw [va_up_ne' hc]
    cases hB : (aCpyOk as xisI s0 s1 n1 && aCpyOk bs xisI d0 d1 n1 || aCpyOk as xisJ s0 s1 n1 && aCpyOk bs xisJ d0 d1 n1) with
    | false => rw [hB] at h2; cases h2
    | true =>
      rw [hB] at h2
      rw [Bool.or_eq_true, Bool.and_eq_true, Bool.and_eq_true] at hB
      rcases hB with hB | hB
      · exact fin xisI hB.1 hB.2 (Or.inl rfl) h2
      · exact fin xisJ hB.1 hB.2 (Or.inr rfl) h2
  · cases ha2
end BC
