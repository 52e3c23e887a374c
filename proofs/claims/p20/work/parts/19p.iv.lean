/-! a call by its contract -/
section AW
variable {L : Nat} {xs : Nat → Int32} {d j : Nat} {h0 : aE} {base : aK → Int} {pc : Nat} {lv st : List Value} {h : xH} {l : List (Nat × aS)} {S : aS}
theorem keep_F {m : Nat} {h1 : xH} (hf : aFr m h h1) : aKeep (aisMod m) lv h lv h1 := by
  refine ⟨?_, fun _ _ _ => rfl⟩
  intro x w hx hc
  rcases x with i | ⟨c, k⟩
  · exact hc
  · show some (h1.2.1 c k).toInt = some w
    rw [(hf c k hx).1]
    exact hc
theorem ucomb_s {hh h h1 : xH} {us : aU} {q p : (Nat × Nat) × Int × Bool} (hu : aUok h h1 us) (hq : aUq hh h q) (hp : p ∈ aUcomb us q) : aUq hh h1 p := by
  obtain ⟨r, hr, hpr⟩ := List.mem_flatMap.mp hp
  cases he : aPeq r.1 q.1 with
  | false => rw [he] at hpr; cases hpr
  | true =>
    rw [he] at hpr
    have e1 := List.mem_singleton.mp hpr
    have e2 := aPeq_s he
    have hr2 := hu r hr
    unfold aUq at hr2 hq ⊢
    rw [e2] at hr2
    rw [e1]
    dsimp only
    refine ⟨by omega, fun hb => ?_⟩
    rw [Bool.and_eq_true] at hb
    have k1 := hq.2 hb.1
    have k2 := hr2.2 hb.2
    omega
theorem wadd_s {bs : aK → Int} {m : Nat} {us : aU} {h1 : xH} (hf : aFr m h h1) (hu : aUok h h1 us) {q : aK × Option (Int × Bool)} (hq : ∀ e, q.2 = some e → aWq bs lv h q.1 e) : ∀ e, (aWadd m us q).2 = some e → aWq bs lv h1 (aWadd m us q).1 e := by
  intro e he
  obtain ⟨x, o⟩ := q
  rcases x with i | ⟨c, k⟩
  · exact k_wq (keep_F (lv := lv) hf) rfl (hq e he)
  · have e0 : aWadd m us ((Sum.inr (c, k)), o) = (bif aisMod m (Sum.inr (c, k)) then ((Sum.inr (c, k)), aUadd us c k o) else ((Sum.inr (c, k)), o)) := rfl
    rw [e0] at he ⊢
    cases hm : aisMod m (Sum.inr (c, k)) with
    | false =>
      rw [hm] at he
      exact k_wq (keep_F (lv := lv) hf) hm (hq e he)
    | true =>
      rw [hm] at he
      have he2 : aUadd us c k o = some e := he
      unfold aUadd at he2
      cases o with
      | none => cases he2
      | some f =>
        dsimp only at he2
        split at he2
        · rename_i p hp
          have h3b := List.find?_some hp
          have h3 := aPeq_s h3b
          have h4 := hu p (List.mem_of_find?_eq_some hp)
          unfold aUq at h4
          rw [h3] at h4
          obtain ⟨w, g1, g2, g3⟩ := hq f rfl
          have g4 : (h.2.1 c k).toInt = w := Option.some.inj g1
          dsimp only at h4 g2 g3
          rw [← Option.some.inj he2]
          refine ⟨(h1.2.1 c k).toInt, rfl, ?_, fun hb => ?_⟩
          · show bs (Sum.inr (c, k)) + (f.1 + p.2.1) ≤ (h1.2.1 c k).toInt
            omega
          · have hb2 : (f.2 && p.2.2) = true := hb
            rw [Bool.and_eq_true] at hb2
            have k1 := g3 hb2.1
            have k2 := h4.2 hb2.2
            show (h1.2.1 c k).toInt = bs (Sum.inr (c, k)) + (f.1 + p.2.1)
            omega
        · cases he2
theorem loseC_s {bb : aB} {m : Nat} {us : aU} {tr : aTr} {h1 : xH} (hf : aFr m h h1) (hu : aUok h h1 us) (hT : aTs bb lv h tr) : aTs bb lv h1 (aLoseC m us tr) := by
  obtain ⟨t1, t2, t3, t4⟩ := k_ts (keep_F hf) hT
  refine ⟨?_, t2, t3, ?_⟩
  · intro q hq e he
    obtain ⟨p, hp, rfl⟩ := List.mem_map.mp hq
    exact wadd_s hf hu (fun e he => hT.1 p hp e he) e he
  · intro q hq
    obtain ⟨p, hp, hpq⟩ := List.mem_flatMap.mp hq
    have hup := hT.2.2.2 p hp
    cases he : aisMod m (Sum.inr (p.1.1, p.1.2)) with
    | true =>
      rw [he] at hpq
      exact ucomb_s hu hup hpq
    | false =>
      rw [he] at hpq
      rw [List.mem_singleton.mp hpq]
      exact k_up (keep_F (lv := lv) hf) he hup
theorem case0_s {j' na : Nat} {cs : aCs} {v1 : Option Value} {h2 : xH} {vs : List Value} (hs : aSt j h0 base S lv st h) (hsub : aSubm (aMod j') (aMod j) = true) (hp : aPost j' (h, vs) v1 h2) (hc : aCok (h, vs) v1 h2 cs) : aSt j h0 base (aCase0 j' na cs S) lv (v1.toList ++ st.drop na) h2 := by
  obtain ⟨hg, hf, hL, hS, hF, hT⟩ := hs
  obtain ⟨p1, p2, -⟩ := hp
  obtain ⟨c1, c2, c3, c4⟩ := hc
  refine ⟨p1, aFr_trans hsub hf p2, hL, ?_, ?_, loseC_s p2 c4 hT⟩
  · show aGs lv h2 ((cs.1.map aD0).toList ++ (S.2.1.drop na).map (aDo (aisMod (aMod j')))) (v1.toList ++ st.drop na)
    refine gs_app _ _ ?_ (k_gs (keep_F p2) _ _ (gs_drop na _ _ hS))
    unfold aRes at c1
    cases ho : cs.1 with
    | none =>
      rw [ho] at c1
      have e : v1 = none := c1
      rw [e]
      rfl
    | some a =>
      rw [ho] at c1
      obtain ⟨u, e, hu⟩ := c1
      rw [e]
      exact ⟨g0_g hu, rfl⟩
  · intro q hq
    rcases List.mem_append.mp hq with h3 | h3
    · exact c3 q h3
    · exact fok_del hF (fun c k hck => ⟨(p2 c k hck).1, (p2 c k hck).2.2⟩) q h3
/-- what a case says of the arguments -/
theorem caseR_s {m : Nat} {h1 h2 : xH} {args : List aV} {vs st2 : List Value} (hf : aFr m h1 h2) (hA : aGs lv h1 args vs) : ∀ (rs : List (Nat × Int × Int)) (S : aS), (∀ q ∈ rs, aRfs vs q) → aSt j h0 base S lv st2 h2 → aSt j h0 base (aCaseR m args rs S) lv st2 h2 := by
  have get : ∀ (as : List aV) (us : List Value) (i : Nat) (a : aV), aGs lv h1 as us → as[i]? = some a → ∃ v, us[i]? = some v ∧ aG lv h1 a v := by
    intro as
    induction as with
    | nil => intro us i a _ hi; cases hi
    | cons b r ih =>
      intro us i a hg hi
      cases us with
      | nil => exact hg.elim
      | cons u t =>
        cases i with
        | zero => cases hi; exact ⟨u, rfl, hg.1⟩
        | succ i => exact ih t i a hg.2 hi
  intro rs
  induction rs with
  | nil => intro S _ hs; exact hs
  | cons q r ih =>
    intro S hq hs
    refine ih _ (fun p hp => hq p (List.mem_cons_of_mem _ hp)) ?_
    unfold aRfnC
    split
    · rename_i lo hi x e ha
      cases hx : aisMod m x with
      | true => exact hs
      | false =>
        obtain ⟨u, hu, y, rfl, b1, b2, w, hw, hyw⟩ := get _ _ _ _ hA ha
        obtain ⟨y', hy', g1, g2⟩ := hq q List.mem_cons_self
        rw [hu] at hy'
        have e9 : y = y' := Value.int.inj (Option.some.inj hy')
        subst e9
        have hw2 : aCur lv h2 x = some w := (keep_F (lv := lv) hf).1 x w hx hw
        exact rfn_s hs ⟨w, hw2, hyw⟩ g1 g2
    · exact hs
theorem bad_s {st2 : List Value} (hs : aSt j h0 base S lv st2 h) : aBad S = false := by
  obtain ⟨hg, hf, hL, hS, hF, hT⟩ := hs
  unfold aBad
  rw [Bool.or_eq_false_iff]
  refine ⟨?_, ?_⟩
  · rw [List.any_eq_false]
    intro a ha hb
    obtain ⟨i, hi, e⟩ := List.getElem_of_mem ha
    obtain ⟨v, -, hv⟩ := hL.2 i a (by rw [List.getElem?_eq_getElem hi, e])
    rcases a with _ | ⟨lo, hi, o⟩ | ⟨lo, hi⟩ | cs | ks
    · cases hb
    · obtain ⟨x, -, b1, b2⟩ := hv
      have hb2 : (!(aile lo hi)) = true := hb
      rw [ai_le.mpr (Int.le_trans b1 b2)] at hb2
      cases hb2
    · cases hb
    · cases hb
    · cases hb
  · rw [List.any_eq_false]
    intro q hq hb
    rw [Bool.and_eq_true] at hb
    have h1 := (hF q hq).2 (not_s hb.2)
    have h2 := hb.1
    rw [ai_le.mpr (Int.le_trans h1.1 h1.2)] at h2
    cases h2
theorem holds_s {fs : aFs} {q : Nat × Nat × Int × Int} (hg : aGood h) (hF : aFok h fs) (hq : aHolds fs q = true) : aFq h q := by
  unfold aHolds at hq
  cases hr : aIsRb q.1 q.2.1 with
  | true =>
    rw [hr] at hq
    dsimp only [cond_true] at hq
    refine ⟨fun _ => ?_, fun hh => ?_⟩
    · split at hq
      · rename_i z hz
        obtain ⟨d, e1, e2⟩ := fkR_s hF hr hz
        exact ⟨d, by rw [← ai_eq.mp hq]; exact e1, e2⟩
      · cases hq
    · rw [hr] at hh
      cases hh
  | false =>
    rw [hr] at hq
    dsimp only [cond_false] at hq
    rw [Bool.and_eq_true] at hq
    have b := fk_s hg hF (hasb_s hq.1) hr
    refine ⟨fun hh => ?_, fun _ => sub2_s hq.2 b.1 b.2⟩
    rw [hr] at hh
    cases hh
theorem j_call {jm na : Nat} {q : xQ} (hkn : ∀ n, n < j → aOK n) (hd : aDep j ≤ d) (hq : xins (aJ j) pc = some q) (hx : ∀ d, xstep L xs (d + 1) (aJ j) q pc lv st h = xcall jm na st) (ha : aCall j jm na pc S = some l) (hs : aSt j h0 base S lv st h) (kk : ∀ s ∈ l, ∀ lv1 st1 h1, aSt j h0 base s.2 lv1 st1 h1 → aT L xs d j h0 s.1 lv1 st1 h1) : aT L xs d j h0 pc lv st h := by
  have hs0 := hs
  obtain ⟨hg, hf, hL, hS, hF, hT⟩ := hs
  unfold aCall at ha
  obtain ⟨hc, h1⟩ := aIf_s ha
  clear ha
  rw [Bool.and_eq_true, Bool.and_eq_true, Bool.and_eq_true] at hc
  obtain ⟨⟨⟨c2, c3⟩, c4⟩, c5⟩ := hc
  have n2 : na ≤ S.2.1.length := Nat.le_of_ble_eq_true c2
  have n3 : aSumC (S.2.1.drop na) ≤ 8 := Nat.le_of_ble_eq_true c3
  have n4 : aSumC (S.2.1.take na) ≤ xml jm := Nat.le_of_ble_eq_true c4
  have hlen := gs_len _ _ hS
  have hsd := gs_drop na _ _ hS
  have hst := gs_take na _ _ hS
  have m3 := gs_cat _ _ hsd (all_drop na c5)
  have m4 := gs_cat _ _ hst (all_take na c5)
  split at h1
  · rename_i j' hj'
    obtain ⟨hc2, h2⟩ := aIf_s h1
    clear h1
    rw [Bool.and_eq_true, Bool.and_eq_true] at hc2
    obtain ⟨⟨d1, d2⟩, d3⟩ := hc2
    have k1 : j' < j := Nat.le_of_ble_eq_true d1
    have n7 : aDep j' < aDep j := Nat.le_of_ble_eq_true d2
    have hfd := List.find?_some hj'
    rw [Bool.and_eq_true, Bool.and_eq_true, List.all_eq_true] at hfd
    obtain ⟨⟨f1, f2⟩, f3⟩ := hfd
    have ej : aJ j' = jm := Nat.eq_of_beq_eq_true f1
    subst ej
    cases d with
    | zero => omega
    | succ d1 =>
      refine aT_call (j1 := j') (as := (st.take na).reverse) (rest := st.drop na) hq ?_ (hkn j' k1 L xs d1 _ h (by omega) hg (les_args _ _ _ f2 (gs_rev _ _ hst)) (fun q hq => holds_s hg hF (f3 q hq))) ?_
      · rw [hx]
        unfold xcall
        rw [if_pos (by rw [m3]; exact n3), if_pos (by rw [← hlen]; exact n2), if_pos (by rw [m4]; exact n4)]
      · intro v1 h2' hp
        obtain ⟨cs, hcs, hcok⟩ := hp.2.2
        have s1 := case0_s (na := na) hs0 d3 hp hcok
        have s2 := caseR_s (m := aMod j') hp.2.1 (gs_rev _ _ hst) cs.2.1 _ hcok.2.1 s1
        have s3 := bad_s s2
        cases h2
        refine kk (pc + 3, aCaseR (aMod j') (S.2.1.take na).reverse cs.2.1 (aCase0 j' na cs S)) (List.mem_flatMap.mpr ⟨cs, hcs, ?_⟩) _ _ _ s2
        unfold aCase
        rw [s3]
        exact List.mem_singleton.mpr rfl
  · cases h1
end AW
