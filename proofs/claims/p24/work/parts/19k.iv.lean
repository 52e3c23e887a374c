/-! stores into fields and rows -/
theorem mod_obj {m : List Nat} {c k a : Nat} (h1 : xsh c = some (.inl a)) (h2 : amem (aPid c k) m = true) : aisMod m (Sum.inr (c, k)) = true := by
  unfold aisMod
  dsimp only
  rw [h1]
  exact h2
theorem mod_row {m : List Nat} {c k n : Nat} {t : FieldType} (h1 : xsh c = some (.inr (t, n))) (h2 : amem (aPid c 0) m = true) : aisMod m (Sum.inr (c, k)) = true := by
  unfold aisMod
  dsimp only
  rw [h1]
  exact h2
theorem aKeq_refl (x : aK) : aKeq x x = true := by
  rcases x with i | ⟨c, k⟩
  · exact Nat.beq_refl i
  · show (Nat.beq c c && Nat.beq k k) = true
    rw [Nat.beq_refl, Nat.beq_refl]
    rfl
theorem isPl_c {cs : List Nat} {c k : Nat} (hc : c ∈ cs) : aisPl cs k (Sum.inr (c, k)) = true := by
  show (amem c cs && Nat.beq k k) = true
  rw [amem_c hc, Nat.beq_refl]
  rfl
theorem isRow_c {cs : List Nat} {c k : Nat} (hc : c ∈ cs) : aisRow cs (Sum.inr (c, k)) = true := amem_c hc
theorem sub2_s {lo hi : Int} {q : Int × Int} {x : Int32} (h : aSub2 lo hi q = true) (h1 : lo ≤ x.toInt) (h2 : x.toInt ≤ hi) : aIn2 q x := by
  unfold aSub2 at h
  rw [Bool.and_eq_true] at h
  exact ⟨Int.le_trans (ai_le.mp h.1) h1, Int.le_trans h2 (ai_le.mp h.2)⟩
theorem cur_I {lv : List Value} {h h' : xH} (e : h'.2.1 = h.2.1) (x : aK) : aCur lv h' x = aCur lv h x := by
  rcases x with i | ⟨c, k⟩
  · rfl
  · show some (h'.2.1 c k).toInt = some (h.2.1 c k).toInt
    rw [e]
theorem g_I {lv : List Value} {h h' : xH} (e : h'.2.1 = h.2.1) {a : aV} {v : Value} (hg : aG lv h a v) : aG lv h' a v := by
  rcases a with _ | ⟨lo, hi, o⟩ | ⟨lo, hi⟩ | cs | ks
  · trivial
  · obtain ⟨x, e1, h1, h2, h3⟩ := hg
    refine ⟨x, e1, h1, h2, ?_⟩
    cases o with
    | none => trivial
    | some q =>
      obtain ⟨w, h4, h5⟩ := h3
      exact ⟨w, (cur_I e q.1).trans h4, h5⟩
  · exact hg
  · exact hg
  · exact hg
theorem gs_I {lv : List Value} {h h' : xH} (e : h'.2.1 = h.2.1) : ∀ (as : List aV) (vs : List Value), aGs lv h as vs → aGs lv h' as vs
  | [], _, hg => hg
  | _ :: _, [], hg => hg.elim
  | _ :: r, _ :: s, hg => ⟨g_I e hg.1, gs_I e r s hg.2⟩
theorem ts_I {base : aK → Int} {lv : List Value} {h h' : xH} (e : h'.2.1 = h.2.1) {tr : aTr} (ht : aTs base lv h tr) : aTs base lv h' tr := fun q hq z hz => (cur_I e q.1).trans (ht q hq z hz)
section AL
variable {kn : List Nat} {L : Nat} {xs : Nat → Int32} {d j : Nat} {h0 : xH} {base : aK → Int} {pc : Nat} {alv ast r : List aV} {fs : aFs} {tr : aTr} {lv st s : List Value} {h : xH} {l : List (Nat × aS)}
theorem one_I {c k : Nat} {lo hi : Int} {v : aV} {x : Int32} (hg : aGood h) (hf : aFr (aMod j) h0 h) (hL : aLs alv lv) (hS : aGs lv h r s) (hF : aFok h fs) (hT : aTs base lv h tr) (hm : aisMod (aMod j) (Sum.inr (c, k)) = true) (hx1 : lo ≤ x.toInt) (hx2 : x.toInt ≤ hi) (hv : ∀ q, aOf v = some q → aOr lv h (some q) x.toInt) (hr : aIn2 (aRng c k) x) : aSt j h0 base (alv, r.map (aDo (aisPl [c] k)), (c, k, lo, hi) :: aFdel (fun c' k' => aisPl [c] k (Sum.inr (c', k'))) fs, aGrow (Sum.inr (c, k)) v tr) lv s (xsetI h c k x) := by
  refine ⟨good_I hg hr, fr_I hf hm, hL, k_gs (keep_I (isPl_c (List.mem_singleton.mpr rfl))) _ _ hS, ?_, ?_⟩
  · intro q hq
    rcases List.mem_cons.mp hq with rfl | hq2
    · show aIn2 (lo, hi) ((xsetI h c k x).2.1 c k)
      rw [hI_same]
      exact ⟨hx1, hx2⟩
    · refine fok_del hF ?_ q hq2
      intro c' k' hck
      refine hI_ne x fun z => ?_
      rw [z.1, z.2, isPl_c (List.mem_singleton.mpr rfl)] at hck
      cases hck
  · refine k_grow (z := x.toInt) (keep_I (aKeq_refl _)) ?_ hT
    intro q hq
    refine ⟨hv q hq, ?_⟩
    show some ((xsetI h c k x).2.1 c k).toInt = some x.toInt
    rw [hI_same]
theorem many_I {c k : Nat} {f : aK → Bool} {x : Int32} (hfc : f (Sum.inr (c, k)) = true) (hg : aGood h) (hf : aFr (aMod j) h0 h) (hL : aLs alv lv) (hS : aGs lv h r s) (hF : aFok h fs) (hT : aTs base lv h tr) (hm : aisMod (aMod j) (Sum.inr (c, k)) = true) (hr : aIn2 (aRng c k) x) : aSt j h0 base (alv, r.map (aDo f), aFdel (fun c' k' => f (Sum.inr (c', k'))) fs, aLose f tr) lv s (xsetI h c k x) := by
  refine ⟨good_I hg hr, fr_I hf hm, hL, k_gs (keep_I hfc) _ _ hS, ?_, k_ts (keep_I hfc) hT⟩
  show aFok (xsetI h c k x) (aFdel (fun c' k' => f (Sum.inr (c', k'))) fs)
  refine fok_del hF ?_
  intro c' k' hck
  refine hI_ne x fun z => ?_
  rw [z.1, z.2, hfc] at hck
  cases hck
theorem j_putF {cs : List Nat} {c k : Nat} {lo hi : Int} {v : aV} {x : Int32} (ha : aPutF j cs k lo hi v pc alv r fs tr = some l) (hcs : c ∈ cs) (hg : aGood h) (hf : aFr (aMod j) h0 h) (hL : aLs alv lv) (hS : aGs lv h r s) (hF : aFok h fs) (hT : aTs base lv h tr) (hm : aisMod (aMod j) (Sum.inr (c, k)) = true) (hx1 : lo ≤ x.toInt) (hx2 : x.toInt ≤ hi) (hv : ∀ q, aOf v = some q → aOr lv h (some q) x.toInt) (kk : ∀ s ∈ l, ∀ lv1 st1 h1, aSt j h0 base s.2 lv1 st1 h1 → aT L xs d j h0 s.1 lv1 st1 h1) : aT L xs d j h0 pc lv s (xsetI h c k x) := by
  unfold aPutF at ha
  obtain ⟨h1, h2⟩ := aIf_s ha
  rw [List.all_eq_true] at h1
  have hr : aIn2 (aRng c k) x := sub2_s (h1 c hcs) hx1 hx2
  split at h2
  · rename_i e
    have ec : c = e := List.mem_singleton.mp hcs
    subst ec
    exact kk _ (aGo_s h2) _ _ _ (one_I hg hf hL hS hF hT hm hx1 hx2 hv hr)
  · exact kk _ (aGo_s h2) _ _ _ (many_I (isPl_c hcs) hg hf hL hS hF hT hm hr)
theorem j_putA {cs : List Nat} {c : Nat} {a b lo hi : Int} {v : aV} {x : Int32} {i : Nat} (ha : aPutA j cs a b lo hi v pc alv r fs tr = some l) (hcs : c ∈ cs) (hia : a ≤ i) (hib : (i : Int) ≤ b) (hall : ∀ c k, aFine c = false → aSub2 (aAll c).1 (aAll c).2 (aRng c k) = true) {t : FieldType} {n : Nat} (hsh : xsh c = some (.inr (t, n))) (hg : aGood h) (hf : aFr (aMod j) h0 h) (hL : aLs alv lv) (hS : aGs lv h r s) (hF : aFok h fs) (hT : aTs base lv h tr) (hx1 : lo ≤ x.toInt) (hx2 : x.toInt ≤ hi) (hv : ∀ q, aOf v = some q → aOr lv h (some q) x.toInt) (kk : ∀ s ∈ l, ∀ lv1 st1 h1, aSt j h0 base s.2 lv1 st1 h1 → aT L xs d j h0 s.1 lv1 st1 h1) : aT L xs d j h0 pc lv s (xsetI h c i x) := by
  unfold aPutA at ha
  obtain ⟨h1, h2⟩ := aIf_s ha
  rw [List.all_eq_true] at h1
  have h3 := h1 c hcs
  rw [Bool.and_eq_true] at h3
  have hm : aisMod (aMod j) (Sum.inr (c, i)) = true := mod_row hsh h3.1
  cases hab : aieq a b with
  | true =>
    have e1 := ai_eq.mp hab
    have e2 : a.toNat = i := by omega
    rw [hab] at h2
    have h4 : (bif aieq a b then aSub2 lo hi (aRng c a.toNat) else !(aFine c) && aSub2 lo hi (aAll c)) = true := h3.2
    rw [hab] at h4
    have hr : aIn2 (aRng c i) x := by rw [← e2]; exact sub2_s h4 hx1 hx2
    rw [e2] at h2
    dsimp only [cond_true] at h2
    split at h2
    · rename_i e
      have ec : c = e := List.mem_singleton.mp hcs
      subst ec
      exact kk _ (aGo_s h2) _ _ _ (one_I hg hf hL hS hF hT hm hx1 hx2 hv hr)
    · exact kk _ (aGo_s h2) _ _ _ (many_I (isRow_c hcs) hg hf hL hS hF hT hm hr)
  | false =>
    rw [hab] at h2
    have h4 : (bif aieq a b then aSub2 lo hi (aRng c a.toNat) else !(aFine c) && aSub2 lo hi (aAll c)) = true := h3.2
    rw [hab] at h4
    dsimp only [cond_false] at h4
    rw [Bool.and_eq_true] at h4
    have h5 : aFine c = false := by
      have := h4.1
      cases e : aFine c with
      | false => rfl
      | true => rw [e] at this; cases this
    have h6 := sub2_s h4.2 hx1 hx2
    have hr : aIn2 (aRng c i) x := sub2_s (hall c i h5) h6.1 h6.2
    exact kk _ (aGo_s h2) _ _ _ (many_I (isRow_c hcs) hg hf hL hS hF hT hm hr)
theorem j_putfield {n : Nat} {len a b : Nat} {w : Nat} (hq : xins j pc = some (.putfield n, len, a, b, w)) (ha : aS_putfield kn j len a b pc (alv, ast, fs, tr) = some l) (hs : aSt j h0 base (alv, ast, fs, tr) lv st h) (kk : ∀ s ∈ l, ∀ lv1 st1 h1, aSt j h0 base s.2 lv1 st1 h1 → aT L xs d j h0 s.1 lv1 st1 h1) : aT L xs d j h0 pc lv st h := by
  obtain ⟨hg, hf, hL, hS, hF, hT⟩ := hs
  unfold aS_putfield at ha
  dsimp only at ha hL hS hF hT
  split at ha
  · rename_i v cs r
    obtain ⟨hc, h1⟩ := aIf_s ha
    rw [Bool.and_eq_true, List.all_eq_true] at hc
    obtain ⟨u, s1, rfl, hu, hS1⟩ := s_any hS
    obtain ⟨c, s, rfl, hcs, hS2⟩ := s_ref hS1
    have hlen : len = 3 := Nat.eq_of_beq_eq_true hc.1
    subst hlen
    have hob2 := hc.2 c hcs
    rw [Bool.and_eq_true] at hob2
    obtain ⟨hob, hmem⟩ := hob2
    obtain ⟨hc1, hc2⟩ := aObj_s hob
    have hm : aisMod (aMod j) (Sum.inr (c, b)) = true := mod_obj hc2 hmem
    have go : ∀ h1, xput h (xty a b) c b u = some h1 → aT L xs d j h0 (pc + 3) lv s h1 → aT L xs d j h0 pc lv (u :: .ref c :: s) h := by
      intro h1 e1 e2
      refine aT_step (pc1 := pc + 3) (lv1 := lv) (st1 := s) (h1 := h1) hq ?_ e2
      show x1 3 3 (xobj h c a _) = _
      rw [xobj_ok hg hob, e1]
      rfl
    split at h1
    · rename_i ht
      split at h1
      · obtain ⟨x, rfl, -, -⟩ := hu
        refine go (xsetL h c b x) (by rw [ht]; rfl) ?_
        exact kk _ (aGo_s h1) _ _ _ ⟨good_L hg, fr_L hf hm, hL, gs_I (h := h) (h' := xsetL h c b x) rfl _ _ hS2, hF, ts_I (h := h) (h' := xsetL h c b x) rfl hT⟩
      · cases h1
    · rename_i ht
      split at h1
      · rename_i ds
        obtain ⟨h2, h3⟩ := aIf_s h1
        obtain ⟨e, rfl, he⟩ := hu
        rw [List.all_eq_true] at h2
        have h4 := h2 c hcs
        rw [List.all_eq_true] at h4
        refine go (xsetR h c b (e + 1)) (by rw [ht]; rfl) ?_
        exact kk _ (aGo_s h3) _ _ _ ⟨good_R hg (amem_s (h4 e he)), fr_R hf hm, hL, gs_I (h := h) (h' := xsetR h c b (e + 1)) rfl _ _ hS2, hF, ts_I (h := h) (h' := xsetR h c b (e + 1)) rfl hT⟩
      · cases h1
    · rename_i ht
      split at h1
      · rename_i ds
        obtain ⟨h2, h3⟩ := aIf_s h1
        obtain ⟨e, rfl, he⟩ := hu
        rw [List.all_eq_true] at h2
        have h4 := h2 c hcs
        rw [List.all_eq_true] at h4
        refine go (xsetR h c b (e + 1)) (by rw [ht]; rfl) ?_
        exact kk _ (aGo_s h3) _ _ _ ⟨good_R hg (amem_s (h4 e he)), fr_R hf hm, hL, gs_I (h := h) (h' := xsetR h c b (e + 1)) rfl _ _ hS2, hF, ts_I (h := h) (h' := xsetR h c b (e + 1)) rfl hT⟩
      · cases h1
    · rename_i ht
      split at h1
      · rename_i lo hi o
        obtain ⟨x, rfl, hx1, hx2, hx3⟩ := hu
        refine go (xsetI h c b x) (by rw [ht]; rfl) ?_
        exact j_putF h1 hcs hg hf hL hS2 hF hT hm hx1 hx2 (fun q hq => by have e : o = some q := hq; rw [← e]; exact hx3) kk
      · cases h1
    · rename_i ht
      split at h1
      · rename_i lo hi o
        obtain ⟨h2, h3⟩ := aIf_s h1
        rw [Bool.and_eq_true] at h2
        have b1 := ai_le.mp h2.1
        have b2 := ai_le.mp h2.2
        obtain ⟨x, rfl, hx1, hx2, hx3⟩ := hu
        refine go (xsetI h c b x) ?_ ?_
        · rw [ht]
          show (if x = 0 then some (xsetI h c b x) else if x = 1 then some (xsetI h c b x) else none) = some (xsetI h c b x)
          by_cases e0 : x = 0
          · rw [if_pos e0]
          · rw [if_neg e0, if_pos]
            refine Int32.toInt_inj.mp ?_
            have e1 : x.toInt ≠ 0 := fun z => e0 (Int32.toInt_inj.mp z)
            show x.toInt = 1
            omega
        · exact j_putF h3 hcs hg hf hL hS2 hF hT hm hx1 hx2 (fun q hq => by have e : o = some q := hq; rw [← e]; exact hx3) kk
      · cases h1
    · cases h1
  · cases ha
end AL
