/-! how runs are put together -/
def xEv (L : Nat) (xs : Nat → Int32) (d j pc : Nat) (lv st : List Value) (h : xH) (v : Option Value) (h' : xH) : Prop := ∃ n, xrun L xs n d j pc lv st h = some (v, h')
/-- k steps without a call -/
noncomputable def xstr (L : Nat) (xs : Nat → Int32) (d j : Nat) (k : Nat) : Nat → List Value → List Value → xH → Option xF := Nat.rec (fun pc lv st h => some (pc, lv, st, h)) (fun _ ih pc lv st h => match xins j pc with
    | none => none
    | some q => match xstep L xs d j q pc lv st h with
      | some (.inl (pc', lv', st', h')) => ih pc' lv' st' h'
      | _ => none) k
section XEV
variable {L : Nat} {xs : Nat → Int32} {d j pc : Nat} {lv st : List Value} {h h' : xH} {v : Option Value}
theorem ev_step {q : xQ} {pc1 : Nat} {lv1 st1 : List Value} {h1 : xH} (hq : xins j pc = some q) (hs : xstep L xs d j q pc lv st h = some (.inl (pc1, lv1, st1, h1))) (hk : xEv L xs d j pc1 lv1 st1 h1 v h') : xEv L xs d j pc lv st h v h' := by
  obtain ⟨n, hn⟩ := hk
  refine ⟨n + 1, ?_⟩
  rw [xrun_succ, hq]
  dsimp only
  rw [hs]
  exact hn
theorem ev_go (k : Nat) {pc1 : Nat} {lv1 st1 : List Value} {h1 : xH} (hg : xstr L xs d j k pc lv st h = some (pc1, lv1, st1, h1)) (hk : xEv L xs d j pc1 lv1 st1 h1 v h') : xEv L xs d j pc lv st h v h' := by
  induction k generalizing pc lv st h with
  | zero => cases hg; exact hk
  | succ k ih =>
    have hg2 : (match xins j pc with
      | none => none
      | some q => match xstep L xs d j q pc lv st h with
        | some (.inl (pc', lv', st', h')) => xstr L xs d j k pc' lv' st' h'
        | _ => none) = some (pc1, lv1, st1, h1) := hg
    cases hq : xins j pc with
    | none => rw [hq] at hg2; cases hg2
    | some q =>
      rw [hq] at hg2
      dsimp only at hg2
      cases hs : xstep L xs d j q pc lv st h with
      | none => rw [hs] at hg2; cases hg2
      | some r =>
        rw [hs] at hg2
        rcases r with ⟨pc2, lv2, st2, h2⟩ | v1 | z
        · exact ev_step hq hs (ih hg2)
        · cases hg2
        · cases hg2
theorem ev_call {q : xQ} {j1 d1 : Nat} {as rest : List Value} {v1 : Option Value} {h1 : xH} (hq : xins j pc = some q) (hs : xstep L xs (d1 + 1) j q pc lv st h = some (.inr (.inr (j1, as, rest)))) (hc : xEv L xs d1 j1 0 (xent as (xml j1)) [] h v1 h1) (hk : xEv L xs (d1 + 1) j (pc + 3) lv (v1.toList ++ rest) h1 v h') : xEv L xs (d1 + 1) j pc lv st h v h' := by
  obtain ⟨n, hn⟩ := hc
  obtain ⟨k, hkk⟩ := hk
  refine ⟨n + k + 1, ?_⟩
  rw [xrun_succ, hq]
  dsimp only
  rw [hs]
  dsimp only
  rw [xrun_more k hn]
  dsimp only
  rw [Nat.add_comm n k]
  exact xrun_more n hkk
theorem ev_ret {q : xQ} (hq : xins j pc = some q) (hs : xstep L xs d j q pc lv st h = some (.inr (.inl v))) : xEv L xs d j pc lv st h v h := by
  refine ⟨1, ?_⟩
  rw [xrun_succ, hq]
  dsimp only
  rw [hs]
/-- a branch whose outcome is known -/
theorem ev_br {q : xQ} {b b1 : Bool} {tgt : Nat} {st1 : List Value} (hq : xins j pc = some q) (hs : xstep L xs d j q pc lv st h = xbr b pc tgt lv st1 h) (hb : b = b1) (hk : xEv L xs d j (bif b1 then tgt else pc + 3) lv st1 h v h') : xEv L xs d j pc lv st h v h' := by
  subst hb
  cases b with
  | true => exact ev_step hq hs hk
  | false => exact ev_step hq hs hk
end XEV
theorem xcd_eq {x y : Int32} (h : x.toInt = y.toInt) : xcnd .eq x y = true := decide_eq_true (Int32.toInt_inj.mp h)
theorem xcd_neq {x y : Int32} (h : x.toInt ≠ y.toInt) : xcnd .eq x y = false := decide_eq_false (fun z => h (by rw [z]))
theorem xcd_ne {x y : Int32} (h : x.toInt ≠ y.toInt) : xcnd .ne x y = true := by show (!decide (x = y)) = true; rw [decide_eq_false (fun z => h (by rw [z]))]; rfl
theorem xcd_nne {x y : Int32} (h : x.toInt = y.toInt) : xcnd .ne x y = false := by show (!decide (x = y)) = false; rw [decide_eq_true (Int32.toInt_inj.mp h)]; rfl
theorem xcd_lt {x y : Int32} (h : x.toInt < y.toInt) : xcnd .lt x y = true := decide_eq_true (Int32.lt_iff_toInt_lt.mpr h)
theorem xcd_nlt {x y : Int32} (h : y.toInt ≤ x.toInt) : xcnd .lt x y = false := decide_eq_false (fun z => by have := Int32.lt_iff_toInt_lt.mp z; omega)
theorem xcd_ge {x y : Int32} (h : y.toInt ≤ x.toInt) : xcnd .ge x y = true := decide_eq_true (Int32.le_iff_toInt_le.mpr h)
theorem xcd_nge {x y : Int32} (h : x.toInt < y.toInt) : xcnd .ge x y = false := decide_eq_false (fun z => by have := Int32.le_iff_toInt_le.mp z; omega)
theorem xcd_gt {x y : Int32} (h : y.toInt < x.toInt) : xcnd .gt x y = true := decide_eq_true (Int32.lt_iff_toInt_lt.mpr h)
theorem xcd_ngt {x y : Int32} (h : x.toInt ≤ y.toInt) : xcnd .gt x y = false := decide_eq_false (fun z => by have := Int32.lt_iff_toInt_lt.mp z; omega)
theorem xcd_le {x y : Int32} (h : x.toInt ≤ y.toInt) : xcnd .le x y = true := decide_eq_true (Int32.le_iff_toInt_le.mpr h)
theorem xcd_nle {x y : Int32} (h : y.toInt < x.toInt) : xcnd .le x y = false := decide_eq_false (fun z => by have := Int32.le_iff_toInt_le.mp z; omega)
theorem ev_tab {L : Nat} {xs : Nat → Int32} {d j pc : Nat} {lv st : List Value} {h h' : xH} {v : Option Value} {x : Int32} {t len a b w : Nat} {df lo hi : Int} {offs : Array Int} {r : List Value} (hq : xins j pc = some (.tableswitch df lo hi offs, len, a, b, w)) (hst : st = .int x :: r) (hout : x.toInt < lo ∨ hi < x.toInt) (ht : ((pc : Int) + df).toNat = t) (hk : xEv L xs d j t lv r h v h') : xEv L xs d j pc lv st h v h' := by
  refine ev_step hq ?_ hk
  subst hst
  subst ht
  show (if x.toInt < lo ∨ hi < x.toInt then xgo ((pc : Int) + df).toNat lv r h else _) = _
  rw [if_pos hout]
  rfl
theorem lk_df (x df : Int) : ∀ (ps : List (Int × Int)), (∀ p ∈ ps, x ≠ p.1) → Op.lookupswitch.offset ps df x = df
  | [], _ => rfl
  | (a, o) :: r, h => by
    rw [Op.lookupswitch.offset_cons, if_neg (fun z => h (a, o) List.mem_cons_self z.symm)]
    exact lk_df x df r (fun p hp => h p (List.mem_cons_of_mem _ hp))
theorem ev_lkp {L : Nat} {xs : Nat → Int32} {d j pc : Nat} {lv st : List Value} {h h' : xH} {v : Option Value} {x : Int32} {t len a b w : Nat} {df : Int} {ps : Array (Int × Int)} {r : List Value} (hq : xins j pc = some (.lookupswitch df ps, len, a, b, w)) (hst : st = .int x :: r) (hout : ∀ p ∈ ps.toList, x.toInt ≠ p.1) (ht : ((pc : Int) + df).toNat = t) (hk : xEv L xs d j t lv r h v h') : xEv L xs d j pc lv st h v h' := by
  refine ev_step hq ?_ hk
  subst hst
  subst ht
  show xgo ((pc : Int) + Op.lookupswitch.offset ps.toList df x.toInt).toNat lv r h = _
  rw [lk_df x.toInt df ps.toList hout]
  rfl
