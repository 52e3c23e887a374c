/-! a contract that the checker takes holds -/
section BG
theorem cut1_s {hi : Int} {o : Option (aK × Int)} {v : Value} : ∀ (ts : List Int) (lo : Int), aG0 (Sum.inr (Sum.inl (lo, hi, o))) v → ∃ u ∈ aCut hi o ts lo, aG0 u v
  | [], lo, hg => ⟨_, List.mem_singleton.mpr rfl, hg⟩
  | t :: r, lo, hg => by
    obtain ⟨x, e, h1, h2⟩ := hg
    by_cases hx : x.toInt ≤ t - 1
    · exact ⟨(Sum.inr (Sum.inl (lo, t - 1, o))), List.mem_cons_self, x, e, h1, hx⟩
    · obtain ⟨u, hu, hgu⟩ := cut1_s r t ⟨x, e, by omega, h2⟩
      exact ⟨u, List.mem_cons_of_mem _ hu, hgu⟩
theorem pc1_s {ts : List Int} {a : aV} {v : Value} (hg : aG0 a v) : ∃ u ∈ aPc1 ts a, aG0 u v := by
  rcases a with _ | ⟨lo, hi, o⟩ | ⟨lo, hi⟩ | cs | ks
  · exact ⟨_, List.mem_singleton.mpr rfl, hg⟩
  · exact cut1_s ts lo hg
  · exact ⟨_, List.mem_singleton.mpr rfl, hg⟩
  · obtain ⟨c, e, hc⟩ := hg
    exact ⟨(Sum.inr (Sum.inr (Sum.inr (Sum.inl ([c]))))), List.mem_map.mpr ⟨c, hc, rfl⟩, c, e, List.mem_singleton.mpr rfl⟩
  · exact ⟨_, List.mem_singleton.mpr rfl, hg⟩
theorem pcs_s {ts : List Int} : ∀ (i : Nat) (as : List aV) (vs : List Value), aArgs as vs → ∃ p ∈ aPcs i ts as, aArgs p vs
  | i, [], vs, hg => ⟨[], by cases i <;> exact List.mem_singleton.mpr rfl, hg⟩
  | _, _ :: _, [], hg => hg.elim
  | 0, a :: r, v :: s, hg => by
    obtain ⟨u, hu, hgu⟩ := pc1_s (ts := ts) hg.1
    exact ⟨u :: r, List.mem_map.mpr ⟨u, hu, rfl⟩, hgu, hg.2⟩
  | i + 1, a :: r, v :: s, hg => by
    obtain ⟨p, hp, hgp⟩ := pcs_s (ts := ts) i r s hg.2
    exact ⟨a :: p, List.mem_map.mpr ⟨p, hp, rfl⟩, hg.1, hgp⟩
theorem cuts_s : ∀ (ds : List (Nat × List Int)) (as : List aV) (vs : List Value), aArgs as vs → ∃ p ∈ aCuts ds as, aArgs p vs
  | [], as, vs, hg => ⟨as, List.mem_singleton.mpr rfl, hg⟩
  | d :: r, as, vs, hg => by
    obtain ⟨p, hp, hgp⟩ := pcs_s (ts := d.2) d.1 as vs hg
    obtain ⟨q, hq, hgq⟩ := cuts_s r p vs hgp
    exact ⟨q, List.mem_flatMap.mpr ⟨p, hp, hq⟩, hgq⟩
def aFl (as : List aV) : List aV := as.flatMap fun v => bif Nat.beq (aCat v) 2 then [v, (Sum.inl ())] else [v]
def vFl (vs : List Value) : List Value := vs.flatMap fun v => if v.category = 2 then [v, xmk] else [v]
theorem g0_cat {a : aV} {v : Value} (hg : aG0 a v) (hk : aKnown a = true) : v.category = aCat a := by
  rcases a with _ | ⟨lo, hi, o⟩ | ⟨lo, hi⟩ | cs | ks
  · cases hk
  · obtain ⟨x, rfl, -⟩ := hg; rfl
  · obtain ⟨x, rfl, -⟩ := hg; rfl
  · obtain ⟨x, rfl, -⟩ := hg; rfl
  · obtain ⟨x, rfl, -⟩ := hg; rfl
theorem fl_s : ∀ (as : List aV) (vs : List Value), aArgs as vs → as.all aKnown = true → aLs (aFl as) (vFl vs)
  | [], vs, hg, _ => by
    have e : vs = [] := hg
    subst e
    exact ⟨rfl, fun i a hi => by cases hi⟩
  | _ :: _, [], hg, _ => hg.elim
  | a :: r, v :: s, hg, hk => by
    rw [List.all_cons, Bool.and_eq_true] at hk
    have ih := fl_s r s hg.2 hk.2
    have hc := g0_cat hg.1 hk.1
    cases h2 : Nat.beq (aCat a) 2 with
    | true =>
      have e2 : v.category = 2 := hc.trans (Nat.eq_of_beq_eq_true h2)
      have ea : aFl (a :: r) = a :: (Sum.inl ()) :: aFl r := by show (bif Nat.beq (aCat a) 2 then [a, (Sum.inl ())] else [a]) ++ aFl r = _; rw [h2]; rfl
      have ev : vFl (v :: s) = v :: xmk :: vFl s := by show (if v.category = 2 then [v, xmk] else [v]) ++ vFl s = _; rw [if_pos e2]; rfl
      rw [ea, ev]
      refine ⟨congrArg (· + 2) ih.1, fun i b hb => ?_⟩
      match i, hb with
      | 0, hb => cases hb; exact ⟨v, rfl, hg.1⟩
      | 1, hb => cases hb; exact ⟨xmk, rfl, trivial⟩
      | i + 2, hb => exact ih.2 i b hb
    | false =>
      have e2 : ¬ v.category = 2 := fun z => by rw [← hc, z] at h2; cases h2
      have ea : aFl (a :: r) = a :: aFl r := by show (bif Nat.beq (aCat a) 2 then [a, (Sum.inl ())] else [a]) ++ aFl r = _; rw [h2]; rfl
      have ev : vFl (v :: s) = v :: vFl s := by show (if v.category = 2 then [v, xmk] else [v]) ++ vFl s = _; rw [if_neg e2]; rfl
      rw [ea, ev]
      refine ⟨congrArg (· + 1) ih.1, fun i b hb => ?_⟩
      match i, hb with
      | 0, hb => cases hb; exact ⟨v, rfl, hg.1⟩
      | i + 1, hb => exact ih.2 i b hb
theorem ent_s {as : List aV} {vs : List Value} (n : Nat) (hg : aArgs as vs) (hk : as.all aKnown = true) : aLs (aEnt as n) (xent vs n) := by
  obtain ⟨h1, h2⟩ := fl_s as vs hg hk
  have ea : aEnt as n = aFl as ++ List.replicate (n - (aFl as).length) (Sum.inl ()) := rfl
  have ev : xent vs n = vFl vs ++ List.replicate (n - (vFl vs).length) xmk := rfl
  rw [ea, ev]
  refine ⟨by rw [List.length_append, List.length_append, List.length_replicate, List.length_replicate, h1], fun i a hi => ?_⟩
  by_cases hl : i < (aFl as).length
  · rw [List.getElem?_append_left hl] at hi
    obtain ⟨v, hv, hgv⟩ := h2 i a hi
    exact ⟨v, by rw [List.getElem?_append_left (by rw [← h1]; exact hl)]; exact hv, hgv⟩
  · rw [List.getElem?_append_right (by omega), List.getElem?_replicate] at hi
    split at hi
    · rename_i hlt
      cases hi
      refine ⟨xmk, ?_, trivial⟩
      rw [List.getElem?_append_right (by omega), List.getElem?_replicate, ← h1, if_pos hlt]
    · cases hi
theorem ones_fl : ∀ (as : List aV) (vs : List Value), aArgs as vs → as.all a1 = true → vFl vs = vs ∧ as.length = vs.length
  | [], vs, hg, _ => by
    have e : vs = [] := hg
    subst e
    exact ⟨rfl, rfl⟩
  | _ :: _, [], hg, _ => hg.elim
  | a :: r, v :: s, hg, hk => by
    rw [List.all_cons, Bool.and_eq_true] at hk
    obtain ⟨ih1, ih2⟩ := ones_fl r s hg.2 hk.2
    have hk1 := hk.1
    unfold a1 at hk1
    rw [Bool.and_eq_true] at hk1
    have hc : v.category = 1 := (g0_cat hg.1 hk1.1).trans (Nat.eq_of_beq_eq_true hk1.2)
    refine ⟨?_, congrArg (· + 1) ih2⟩
    show (if v.category = 2 then [v, xmk] else [v]) ++ vFl s = v :: s
    rw [if_neg (by omega), ih1]
    rfl
theorem a_check {j : Nat} (ht : aTab) (hkn : ∀ n, n < j → aOK n) (hc : aCheck j = true) : aOK j := by
  unfold aCheck at hc
  rw [Bool.and_eq_true, Bool.and_eq_true, Bool.and_eq_true, List.all_eq_true (l := aCuts (aSpl j) (aIns j)), List.all_eq_true (l := aLead j)] at hc
  obtain ⟨⟨⟨-, -⟩, c3⟩, c4⟩ := hc
  intro L xs d vs h hd hg hA hF
  have hl : ∀ q ∈ aLead j, q.2.2.2.2.1.length ≤ 30 ∧ q.2.2.2.2.1.all (aRkOk q.2.1) = true ∧ aWalk j q.2.2.2.2.1 aFuel true q.1 (aLst q) = true := by
    intro q hq
    have h1 := c4 q hq
    rw [Bool.and_eq_true, Bool.and_eq_true] at h1
    exact ⟨Nat.le_of_ble_eq_true h1.1.1, h1.1.2, h1.2⟩
  have hrk : ∀ q ∈ aLead j, q.2.2.2.2.1.all (aRkOk q.2.1) = true := fun q hq => (hl q hq).2.1
  have lead : ∀ (M : Nat), ∀ q ∈ aLead j, ∀ lv st h1, aAtL j (h, vs) q lv st h1 → aMs (aCf lv h1) 30 q.2.2.2.2.1 < M → aT L xs d j (h, vs) q.1 lv st h1 := by
    intro M
    induction M with
    | zero => intro q _ lv st h1 _ hM; omega
    | succ M ih =>
      intro q hq lv st h1 hA1 hM
      obtain ⟨l1, l2, l3⟩ := hl q hq
      exact a_walk ht hkn hd hrk l1 (cf_b lv h1) (fun q2 hq2 lv2 st2 h2 hA2 hM2 => ih q2 hq2 lv2 st2 h2 hA2 (by omega)) aFuel true q.1 (aLst q) lv st h1 l3 hA1
  obtain ⟨as, has, hA2⟩ := cuts_s (aSpl j) (aIns j) vs hA
  have h2 := c3 as has
  rw [Bool.and_eq_true, Bool.and_eq_true] at h2
  obtain ⟨⟨k1, -⟩, k3⟩ := h2
  refine a_walk (base := aCf (xent vs (xml (aJ j))) h) ht hkn hd hrk (R := [(Sum.inl (999999999))]) (by decide) (cf_b _ _) (fun q hq lv st h1 hA1 hM => lead _ q hq lv st h1 hA1 hM) aFuel false 0 (aSt0 j as) _ [] h k3 ?_
  refine ⟨hg, aFr_refl _ _, ent_s _ hA2 k1, rfl, hF, ?_, ?_, ?_, ?_⟩
  · intro q hq; cases hq
  · intro q hq; cases hq
  · intro i hi
    have hi2 : i ∈ (bif as.all a1 then List.range as.length else []) := hi
    cases ha : as.all a1 with
    | false => rw [ha] at hi2; cases hi2
    | true =>
      rw [ha] at hi2
      obtain ⟨e1, e2⟩ := ones_fl as vs hA2 ha
      have hlt : i < as.length := List.mem_range.mp hi2
      show (vFl vs ++ List.replicate (xml (aJ j) - (vFl vs).length) xmk)[i]? = vs[i]?
      rw [e1, List.getElem?_append_left (by omega)]
  · intro q hq
    obtain ⟨p, hp, rfl⟩ := List.mem_map.mp hq
    unfold aUq
    exact ⟨by show (h.2.1 p.1 p.2).toInt + 0 ≤ (h.2.1 p.1 p.2).toInt; omega, fun _ => by show (h.2.1 p.1 p.2).toInt = (h.2.1 p.1 p.2).toInt + 0; omega⟩
end BG
