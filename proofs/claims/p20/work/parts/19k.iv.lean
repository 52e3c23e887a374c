/-! stores into fields and rows -/
/-- what the tables must keep among themselves -/
def aTab : Prop := (∀ c k t n, xsh c = some (.inr (t, n)) → aFine c = false → aRng c k = aAll c) ∧ (∀ c k t n, xsh c = some (.inr (t, n)) → aSub2 (aRng c k).1 (aRng c k).2 (aAll c) = true) ∧ (∀ c k t n, xsh c = some (.inr (t, n)) → aFine c = false → aPid c k = aPid c 0)
theorem ixs_s {a b : Int} {i : Nat} (h1 : a ≤ i) (h2 : (i : Int) ≤ b) (h0 : 0 ≤ a) : i ∈ aIxs a b := by
  unfold aIxs
  exact List.mem_range'_1.mpr ⟨by omega, by omega⟩
theorem modR_s {j c i n : Nat} {t : FieldType} {a b : Int} (ht : aTab) (h1 : xsh c = some (.inr (t, n))) (h2 : aModR j c a b = true) (h0 : 0 ≤ a) (ha : a ≤ i) (hb : (i : Int) ≤ b) : aisMod (aMod j) (Sum.inr (c, i)) = true := by
  unfold aModR at h2
  show Nat.testBit (aMod j) (aPid c i) = true
  cases hf : aFine c with
  | true =>
    rw [hf] at h2
    dsimp only [cond_true] at h2
    rw [Bool.and_eq_true, List.all_eq_true] at h2
    exact h2.2 i (ixs_s ha hb h0)
  | false =>
    rw [hf] at h2
    rw [ht.2.2 c i t n h1 hf]
    exact h2
theorem aKeq_refl (x : aK) : aKeq x x = true := by
  rcases x with i | ⟨c, k⟩
  · exact Nat.beq_refl i
  · show (Nat.beq c c && Nat.beq k k) = true
    rw [Nat.beq_refl, Nat.beq_refl]
    rfl
theorem isPl_c {cs : List Nat} {c k : Nat} (hc : c ∈ cs) : aisPl cs k (Sum.inr (c, k)) = true := by
  show (amem c cs && Nat.beq k k) = true
  rw [amem_c hc, Nat.beq_refl]
  rfl
theorem isRng_c {cs : List Nat} {c k : Nat} {a b : Int} (hc : c ∈ cs) (h1 : a ≤ k) (h2 : (k : Int) ≤ b) : aisRng cs a b (Sum.inr (c, k)) = true := by
  show (amem c cs && (!(aFine c) || (aile a k && aile k b))) = true
  rw [amem_c hc, ai_le.mpr h1, ai_le.mpr h2]
  cases aFine c <;> rfl
theorem isRow_c {cs : List Nat} {c k : Nat} (hc : c ∈ cs) : aisRow cs (Sum.inr (c, k)) = true := amem_c hc
theorem sub2_s {lo hi : Int} {q : Int × Int} {x : Int32} (h : aSub2 lo hi q = true) (h1 : lo ≤ x.toInt) (h2 : x.toInt ≤ hi) : aIn2 q x := by
  unfold aSub2 at h
  rw [Bool.and_eq_true] at h
  exact ⟨Int.le_trans (ai_le.mp h.1) h1, Int.le_trans h2 (ai_le.mp h.2)⟩
theorem cur_I {lv : List Value} {h h' : xH} (e : h'.2.1 = h.2.1) (x : aK) : aCur lv h' x = aCur lv h x := by
  rcases x with i | ⟨c, k⟩
  · rfl
  · show some (h'.2.1 c k).toInt = some (h.2.1 c k).toInt
    rw [e]
theorem g_I {lv : List Value} {h h' : xH} (e : h'.2.1 = h.2.1) {a : aV} {v : Value} (hg : aG lv h a v) : aG lv h' a v := by
  rcases a with _ | ⟨lo, hi, o⟩ | ⟨lo, hi⟩ | cs | ks
  · trivial
  · obtain ⟨x, e1, h1, h2, h3⟩ := hg
    refine ⟨x, e1, h1, h2, ?_⟩
    cases o with
    | none => trivial
    | some q =>
      obtain ⟨w, h4, h5⟩ := h3
      exact ⟨w, (cur_I e q.1).trans h4, h5⟩
  · exact hg
  · exact hg
  · exact hg
theorem gs_I {lv : List Value} {h h' : xH} (e : h'.2.1 = h.2.1) : ∀ (as : List aV) (vs : List Value), aGs lv h as vs → aGs lv h' as vs
  | [], _, hg => hg
  | _ :: _, [], hg => hg.elim
  | _ :: r, _ :: s, hg => ⟨g_I e hg.1, gs_I e r s hg.2⟩
theorem ts_I {base : aB} {lv : List Value} {h h' : xH} (e : h'.2.1 = h.2.1) {tr : aTr} (ht : aTs base lv h tr) : aTs base lv h' tr := ⟨fun q hq z hz => by
    obtain ⟨w, h1, h2⟩ := ht.1 q hq z hz
    exact ⟨w, (cur_I e q.1).trans h1, h2⟩, fun q hq => by
    unfold aAlq
    rw [e]
    exact ht.2.1 q hq, ht.2.2.1, fun q hq => by
    unfold aUq
    rw [e]
    exact ht.2.2.2 q hq⟩
section AL
variable {L : Nat} {xs : Nat → Int32} {d j : Nat} {h0 : aE} {base : aK → Int} {pc : Nat} {alv ast r : List aV} {fs : aFs} {tr : aTr} {lv st s : List Value} {h : xH} {l : List (Nat × aS)}
theorem one_I {c k : Nat} {lo hi : Int} {v : aV} {x : Int32} (hg : aGood h) (hf : aFr (aMod j) h0.1 h) (hL : aLs alv lv) (hS : aGs lv h r s) (hF : aFok h fs) (hT : aTs (base, h0) lv h tr) (hm : aisMod (aMod j) (Sum.inr (c, k)) = true) (hx1 : lo ≤ x.toInt) (hx2 : x.toInt ≤ hi) (hv : ∀ q, aOf v = some q → aOr lv h (some q) x.toInt) (hr : aIn2 (aRng c k) x) (hnr : aIsRb c k = false) : aSt j h0 base (alv, r.map (aDo (aisPl [c] k)), (c, k, lo, hi) :: aFdel (fun c' k' => aisPl [c] k (Sum.inr (c', k'))) fs, aGrow (Sum.inr (c, k)) v tr) lv s (xsetI h c k x) := by
  refine ⟨good_I hg hr, fr_I hf hm, hL, k_gs (keep_I (isPl_c (List.mem_singleton.mpr rfl))) _ _ hS, ?_, ?_⟩
  · intro q hq
    rcases List.mem_cons.mp hq with rfl | hq2
    · refine ⟨fun hh => ?_, fun _ => ?_⟩
      · have hh2 : aIsRb c k = true := hh
        rw [hnr] at hh2
        cases hh2
      · show aIn2 (lo, hi) ((xsetI h c k x).2.1 c k)
        rw [hI_same]
        exact ⟨hx1, hx2⟩
    · refine fok_del hF ?_ q hq2
      intro c' k' hck
      refine ⟨hI_ne x fun z => ?_, rfl⟩
      rw [z.1, z.2, isPl_c (List.mem_singleton.mpr rfl)] at hck
      cases hck
  · refine k_grow (z := x.toInt) (keep_I (aKeq_refl _)) ?_ hT
    intro q hq
    refine ⟨hv q hq, ?_⟩
    show some ((xsetI h c k x).2.1 c k).toInt = some x.toInt
    rw [hI_same]
theorem many_I {c k : Nat} {f : aK → Bool} {x : Int32} (hfc : f (Sum.inr (c, k)) = true) (hg : aGood h) (hf : aFr (aMod j) h0.1 h) (hL : aLs alv lv) (hS : aGs lv h r s) (hF : aFok h fs) (hT : aTs (base, h0) lv h tr) (hm : aisMod (aMod j) (Sum.inr (c, k)) = true) (hr : aIn2 (aRng c k) x) : aSt j h0 base (alv, r.map (aDo f), aFdel (fun c' k' => f (Sum.inr (c', k'))) fs, aLose f tr) lv s (xsetI h c k x) := by
  refine ⟨good_I hg hr, fr_I hf hm, hL, k_gs (keep_I hfc) _ _ hS, ?_, k_ts (keep_I hfc) hT⟩
  show aFok (xsetI h c k x) (aFdel (fun c' k' => f (Sum.inr (c', k'))) fs)
  refine fok_del hF ?_
  intro c' k' hck
  refine ⟨hI_ne x fun z => ?_, rfl⟩
  rw [z.1, z.2, hfc] at hck
  cases hck
theorem j_putF {cs : List Nat} {c k : Nat} {lo hi : Int} {v : aV} {x : Int32} (ha : aPutF j cs k lo hi v pc alv r fs tr = some l) (hcs : c ∈ cs) (hg : aGood h) (hf : aFr (aMod j) h0.1 h) (hL : aLs alv lv) (hS : aGs lv h r s) (hF : aFok h fs) (hT : aTs (base, h0) lv h tr) (hm : aisMod (aMod j) (Sum.inr (c, k)) = true) (hx1 : lo ≤ x.toInt) (hx2 : x.toInt ≤ hi) (hv : ∀ q, aOf v = some q → aOr lv h (some q) x.toInt) (hnr : aIsRb c k = false) (kk : ∀ s ∈ l, ∀ lv1 st1 h1, aSt j h0 base s.2 lv1 st1 h1 → aT L xs d j h0 s.1 lv1 st1 h1) : aT L xs d j h0 pc lv s (xsetI h c k x) := by
  unfold aPutF at ha
  obtain ⟨h1, h2⟩ := aIf_s ha
  rw [List.all_eq_true] at h1
  have hr : aIn2 (aRng c k) x := sub2_s (h1 c hcs) hx1 hx2
  split at h2
  · rename_i e
    have ec : c = e := List.mem_singleton.mp hcs
    subst ec
    exact kk _ (aGo_s h2) _ _ _ (one_I hg hf hL hS hF hT hm hx1 hx2 hv hr hnr)
  · exact kk _ (aGo_s h2) _ _ _ (many_I (isPl_c hcs) hg hf hL hS hF hT hm hr)
theorem j_putA {cs : List Nat} {c : Nat} {a b lo hi : Int} {v : aV} {x : Int32} {i : Nat} (ha : aPutA j cs a b lo hi v pc alv r fs tr = some l) (hcs : c ∈ cs) (h00 : 0 ≤ a) (hia : a ≤ i) (hib : (i : Int) ≤ b) (ht : aTab) {t : FieldType} {n : Nat} (hsh : xsh c = some (.inr (t, n))) (hg : aGood h) (hf : aFr (aMod j) h0.1 h) (hL : aLs alv lv) (hS : aGs lv h r s) (hF : aFok h fs) (hT : aTs (base, h0) lv h tr) (hx1 : lo ≤ x.toInt) (hx2 : x.toInt ≤ hi) (hv : ∀ q, aOf v = some q → aOr lv h (some q) x.toInt) (kk : ∀ s ∈ l, ∀ lv1 st1 h1, aSt j h0 base s.2 lv1 st1 h1 → aT L xs d j h0 s.1 lv1 st1 h1) : aT L xs d j h0 pc lv s (xsetI h c i x) := by
  unfold aPutA at ha
  obtain ⟨h1, h2⟩ := aIf_s ha
  rw [List.all_eq_true] at h1
  have h3 := h1 c hcs
  rw [Bool.and_eq_true] at h3
  have hm : aisMod (aMod j) (Sum.inr (c, i)) = true := modR_s ht hsh h3.1 h00 hia hib
  have hnr : aIsRb c i = false := isR_arr hsh
  have hr : aIn2 (aRng c i) x := by
    have h4 := h3.2
    cases hfi : aFine c with
    | true =>
      rw [hfi] at h4
      dsimp only [cond_true] at h4
      rw [List.all_eq_true] at h4
      exact sub2_s (h4 i (ixs_s hia hib h00)) hx1 hx2
    | false =>
      rw [hfi] at h4
      rw [ht.1 c i t n hsh hfi]
      exact sub2_s h4 hx1 hx2
  cases hab : aieq a b with
  | true =>
    have e1 := ai_eq.mp hab
    have e2 : a.toNat = i := by omega
    rw [hab] at h2
    rw [e2] at h2
    dsimp only [cond_true] at h2
    split at h2
    · rename_i e
      have ec : c = e := List.mem_singleton.mp hcs
      subst ec
      exact kk _ (aGo_s h2) _ _ _ (one_I hg hf hL hS hF hT hm hx1 hx2 hv hr hnr)
    · exact kk _ (aGo_s h2) _ _ _ (many_I (isRng_c hcs hia hib) hg hf hL hS hF hT hm hr)
  | false =>
    rw [hab] at h2
    exact kk _ (aGo_s h2) _ _ _ (many_I (isRng_c hcs hia hib) hg hf hL hS hF hT hm hr)
theorem fok_put {cs ds : List Nat} {c b e : Nat} (hF : aFok h fs) (hcs : c ∈ cs) (hds : e ∈ ds) (hr : aIsRb c b = true) : aFok (xsetR h c b (e + 1)) (aFput cs b ds fs) := by
  have old : aFok (xsetR h c b (e + 1)) (aFdel (fun c' k' => aisPl cs b (Sum.inr (c', k'))) fs) := by
    refine fok_del hF ?_
    intro c' k' hck
    refine ⟨rfl, hR_ne _ fun z => ?_⟩
    rw [z.1, z.2, isPl_c hcs] at hck
    cases hck
  unfold aFput
  split
  · rename_i c1
    have ec : c = c1 := List.mem_singleton.mp hcs
    subst ec
    split
    · rename_i d1
      have ed : e = d1 := List.mem_singleton.mp hds
      subst ed
      intro q hq
      rcases List.mem_cons.mp hq with rfl | hq2
      · refine ⟨fun _ => ⟨e, rfl, hR_same _⟩, fun hh => ?_⟩
        have hh2 : aIsRb c b = false := hh
        rw [hr] at hh2
        cases hh2
      · exact old q hq2
    · exact old
  · exact old
theorem j_putfield {n : Nat} {len a b : Nat} {w : Nat} (hq : xins (aJ j) pc = some (.putfield n, len, a, b, w)) (ha : aS_putfield j len a b pc (alv, ast, fs, tr) = some l) (hs : aSt j h0 base (alv, ast, fs, tr) lv st h) (kk : ∀ s ∈ l, ∀ lv1 st1 h1, aSt j h0 base s.2 lv1 st1 h1 → aT L xs d j h0 s.1 lv1 st1 h1) : aT L xs d j h0 pc lv st h := by
  obtain ⟨hg, hf, hL, hS, hF, hT⟩ := hs
  unfold aS_putfield at ha
  dsimp only at ha hL hS hF hT
  split at ha
  · rename_i v cs r
    obtain ⟨hc, h1⟩ := aIf_s ha
    rw [Bool.and_eq_true, List.all_eq_true] at hc
    obtain ⟨u, s1, rfl, hu, hS1⟩ := s_any hS
    obtain ⟨c, s, rfl, hcs, hS2⟩ := s_ref hS1
    have hlen : len = 3 := Nat.eq_of_beq_eq_true hc.1
    subst hlen
    have hob2 := hc.2 c hcs
    rw [Bool.and_eq_true] at hob2
    obtain ⟨hob, hmem⟩ := hob2
    obtain ⟨hc1, hc2⟩ := aObj_s hob
    have hm : aisMod (aMod j) (Sum.inr (c, b)) = true := hmem
    have go : ∀ h1, xput h (xty a b) c b u = some h1 → aT L xs d j h0 (pc + 3) lv s h1 → aT L xs d j h0 pc lv (u :: .ref c :: s) h := by
      intro h1 e1 e2
      refine aT_step (pc1 := pc + 3) (lv1 := lv) (st1 := s) (h1 := h1) hq ?_ e2
      show x1 3 3 (xobj h c a _) = _
      rw [xobj_ok hg hob, e1]
      rfl
    split at h1
    · rename_i ht
      split at h1
      · obtain ⟨x, rfl, -, -⟩ := hu
        refine go (xsetL h c b x) (by rw [ht]; rfl) ?_
        exact kk _ (aGo_s h1) _ _ _ ⟨good_L hg, fr_L hf hm, hL, gs_I (h := h) (h' := xsetL h c b x) rfl _ _ hS2, fok_L (h' := xsetL h c b x) hF rfl rfl, ts_I (h := h) (h' := xsetL h c b x) rfl hT⟩
      · cases h1
    · rename_i ht
      split at h1
      · rename_i ds
        obtain ⟨h2, h3⟩ := aIf_s h1
        obtain ⟨e, rfl, he⟩ := hu
        rw [List.all_eq_true] at h2
        have h4 := h2 c hcs
        rw [List.all_eq_true] at h4
        refine go (xsetR h c b (e + 1)) (by rw [ht]; rfl) ?_
        exact kk _ (aGo_s h3) _ _ _ ⟨good_R hg (amem_s (h4 e he)), fr_R hf hm, hL, gs_I (h := h) (h' := xsetR h c b (e + 1)) rfl _ _ hS2, fok_put hF hcs he (by rw [isR_obj hc2, ht]), ts_I (h := h) (h' := xsetR h c b (e + 1)) rfl hT⟩
      · cases h1
    · rename_i ht
      split at h1
      · rename_i ds
        obtain ⟨h2, h3⟩ := aIf_s h1
        obtain ⟨e, rfl, he⟩ := hu
        rw [List.all_eq_true] at h2
        have h4 := h2 c hcs
        rw [List.all_eq_true] at h4
        refine go (xsetR h c b (e + 1)) (by rw [ht]; rfl) ?_
        exact kk _ (aGo_s h3) _ _ _ ⟨good_R hg (amem_s (h4 e he)), fr_R hf hm, hL, gs_I (h := h) (h' := xsetR h c b (e + 1)) rfl _ _ hS2, fok_put hF hcs he (by rw [isR_obj hc2, ht]), ts_I (h := h) (h' := xsetR h c b (e + 1)) rfl hT⟩
      · cases h1
    · rename_i ht
      split at h1
      · rename_i lo hi o
        obtain ⟨x, rfl, hx1, hx2, hx3⟩ := hu
        refine go (xsetI h c b x) (by rw [ht]; rfl) ?_
        exact j_putF h1 hcs hg hf hL hS2 hF hT hm hx1 hx2 (fun q hq => by have e : o = some q := hq; rw [← e]; exact hx3) (by rw [isR_obj hc2, ht]) kk
      · cases h1
    · rename_i ht
      split at h1
      · rename_i lo hi o
        obtain ⟨h2, h3⟩ := aIf_s h1
        rw [Bool.and_eq_true] at h2
        have b1 := ai_le.mp h2.1
        have b2 := ai_le.mp h2.2
        obtain ⟨x, rfl, hx1, hx2, hx3⟩ := hu
        refine go (xsetI h c b x) ?_ ?_
        · rw [ht]
          show (if x = 0 then some (xsetI h c b x) else if x = 1 then some (xsetI h c b x) else none) = some (xsetI h c b x)
          by_cases e0 : x = 0
          · rw [if_pos e0]
          · rw [if_neg e0, if_pos]
            refine Int32.toInt_inj.mp ?_
            have e1 : x.toInt ≠ 0 := fun z => e0 (Int32.toInt_inj.mp z)
            show x.toInt = 1
            omega
        · exact j_putF h3 hcs hg hf hL hS2 hF hT hm hx1 hx2 (fun q hq => by have e : o = some q := hq; rw [← e]; exact hx3) (by rw [isR_obj hc2, ht]) kk
      · cases h1
    · cases h1
  · cases ha
end AL
