/-! a call by its contract -/
section AW
variable {kn : List Nat} {L : Nat} {xs : Nat → Int32} {d j : Nat} {h0 : xH} {base : aK → Int} {pc : Nat} {lv st : List Value} {h : xH} {l : List (Nat × aS)} {S : aS}
theorem keep_F {m : List Nat} {h1 : xH} (hf : aFr m h h1) : aKeep (aisMod m) lv h lv h1 := by
  intro x w hx hc
  rcases x with i | ⟨c, k⟩
  · exact hc
  · show some (h1.2.1 c k).toInt = some w
    rw [(hf c k hx).1]
    exact hc
theorem j_call {j' na : Nat} {q : xQ} (hkn : ∀ n ∈ kn, aOK n) (hd : aDep j ≤ d) (hq : xins j pc = some q) (hx : ∀ d, xstep L xs (d + 1) j q pc lv st h = xcall j' na st) (ha : aCall kn j j' na pc S = some l) (hs : aSt j h0 base S lv st h) (kk : ∀ s ∈ l, ∀ lv1 st1 h1, aSt j h0 base s.2 lv1 st1 h1 → aT L xs d j h0 s.1 lv1 st1 h1) : aT L xs d j h0 pc lv st h := by
  obtain ⟨hg, hf, hL, hS, hF, hT⟩ := hs
  unfold aCall at ha
  obtain ⟨hc, h1⟩ := aIf_s ha
  rw [Bool.and_eq_true, Bool.and_eq_true, Bool.and_eq_true, Bool.and_eq_true, Bool.and_eq_true, Bool.and_eq_true, Bool.and_eq_true] at hc
  obtain ⟨⟨⟨⟨⟨⟨⟨c1, c2⟩, c3⟩, c4⟩, c5⟩, c6⟩, c7⟩, c8⟩ := hc
  have n2 : na ≤ S.2.1.length := Nat.le_of_ble_eq_true c2
  have n3 : aSumC (S.2.1.drop na) ≤ 8 := Nat.le_of_ble_eq_true c3
  have n4 : aSumC (S.2.1.take na) ≤ xml j' := Nat.le_of_ble_eq_true c4
  have n7 : aDep j' < aDep j := Nat.le_of_ble_eq_true c7
  have hmods : ∀ q ∈ aMod j', q ∈ aMod j := fun q hq => amem_s (List.all_eq_true.mp c8 q hq)
  have hlen := gs_len _ _ hS
  have hsd := gs_drop na _ _ hS
  have hst := gs_take na _ _ hS
  have m3 := gs_cat _ _ hsd (all_drop na c5)
  have m4 := gs_cat _ _ hst (all_take na c5)
  cases d with
  | zero => omega
  | succ d1 =>
    refine aT_call (j1 := j') (as := (st.take na).reverse) (rest := st.drop na) hq ?_ (hkn j' (amem_s c1) L xs d1 _ h (by omega) hg (les_args _ _ _ c6 (gs_rev _ _ hst))) ?_
    · rw [hx]
      unfold xcall
      rw [if_pos (by rw [m3]; exact n3), if_pos (by rw [← hlen]; exact n2), if_pos (by rw [m4]; exact n4)]
    · intro v1 h2 hp
      obtain ⟨p1, p2, p3⟩ := hp
      refine kk _ (aGo_s h1) _ _ _ ⟨p1, aFr_trans hmods hf p2, hL, ?_, ?_, k_ts (keep_F p2) hT⟩
      · refine gs_app _ _ ?_ (k_gs (keep_F p2) _ _ hsd)
        unfold aRes at p3
        cases ho : aOut j' with
        | none =>
          rw [ho] at p3
          have e : v1 = none := p3
          rw [e]
          rfl
        | some a =>
          rw [ho] at p3
          obtain ⟨u, e, hu⟩ := p3
          rw [e]
          exact ⟨g0_g hu, rfl⟩
      · exact fok_del hF fun c k hck => (p2 c k hck).1
end AW
