/-! ranks; leaders; the walk -/
def aBg : Nat := 10000000000
def aMc (f : aK → Int) (c : aC) : Nat := match c with
  | (Sum.inl (n)) => n
  | (Sum.inr (Sum.inl (x, b))) => (b - f x).toNat
  | (Sum.inr (Sum.inr (x, b))) => (f x - b).toNat
def aMs (f : aK → Int) (k : Nat) (R : List aC) : Nat := match k with
  | 0 => 0
  | k + 1 => match R with
    | [] => 0
    | c :: r => min (aMc f c) (aBg - 1) * aBg ^ k + aMs f k r
def aCf (lv : List Value) (h : xH) (x : aK) : Int := (aCur lv h x).getD 0
theorem ms_lt (f : aK → Int) : ∀ (k : Nat) (R : List aC), aMs f k R < aBg ^ k
  | 0, _ => by show 0 < 1; omega
  | k + 1, [] => Nat.pow_pos (by decide)
  | k + 1, c :: r => by
    have h1 := ms_lt f k r
    have h2 : min (aMc f c) (aBg - 1) ≤ aBg - 1 := Nat.min_le_right _ _
    have h3 : min (aMc f c) (aBg - 1) * aBg ^ k ≤ (aBg - 1) * aBg ^ k := Nat.mul_le_mul_right _ h2
    have h4 : (aBg - 1) * aBg ^ k + aBg ^ k = aBg ^ (k + 1) := by
      rw [Nat.pow_succ, Nat.mul_comm (aBg ^ k) aBg, ← Nat.succ_mul]
      rfl
    show min (aMc f c) (aBg - 1) * aBg ^ k + aMs f k r < aBg ^ (k + 1)
    omega
theorem ms_step {f g : aK → Int} {k : Nat} {c c' : aC} {r r' : List aC} (h1 : aMc g c' < aMc f c) (h2 : aMc f c < aBg) : aMs g (k + 1) (c' :: r') < aMs f (k + 1) (c :: r) := by
  have l := ms_lt g k r'
  have e1 : min (aMc g c') (aBg - 1) = aMc g c' := Nat.min_eq_left (by omega)
  have e2 : min (aMc f c) (aBg - 1) = aMc f c := Nat.min_eq_left (by omega)
  have h3 : (aMc g c' + 1) * aBg ^ k ≤ aMc f c * aBg ^ k := Nat.mul_le_mul_right _ h1
  rw [Nat.succ_mul] at h3
  show min (aMc g c') (aBg - 1) * aBg ^ k + aMs g k r' < min (aMc f c) (aBg - 1) * aBg ^ k + aMs f k r
  rw [e1, e2]
  omega
theorem ms_eq {f g : aK → Int} {k : Nat} {c c' : aC} {r r' : List aC} (h1 : aMc g c' = aMc f c) (h2 : aMs g k r' < aMs f k r) : aMs g (k + 1) (c' :: r') < aMs f (k + 1) (c :: r) := by
  show min (aMc g c') (aBg - 1) * aBg ^ k + aMs g k r' < min (aMc f c) (aBg - 1) * aBg ^ k + aMs f k r
  rw [h1]
  omega
theorem cf_b (lv : List Value) (h : xH) (x : aK) : -2147483648 ≤ aCf lv h x ∧ aCf lv h x ≤ 2147483647 := by
  unfold aCf
  rcases x with i | ⟨c, k⟩
  · cases hc : aCur lv h (Sum.inl (i)) with
    | none => exact ⟨by decide, by decide⟩
    | some w =>
      obtain ⟨y, -, e⟩ := cur_L hc
      have := aw y
      show -2147483648 ≤ w ∧ w ≤ 2147483647
      rw [← e]
      exact this
  · exact aw _
theorem rlt_s {base : aK → Int} {lv : List Value} {h : xH} {tr : aTr} {lva : List aV} {fs : aFs} (hb : ∀ x, -2147483648 ≤ base x ∧ base x ≤ 2147483647) (hT : ∀ q ∈ tr.1, ∀ e, q.2 = some e → aWq base lv h q.1 e) (hB : ∀ x, (aBnd lva fs x).1 ≤ aCf lv h x ∧ aCf lv h x ≤ (aBnd lva fs x).2) : ∀ (R R' : List aC) (k : Nat), R.length ≤ k → aLt tr lva fs R R' = true → aMs (aCf lv h) k R' < aMs base k R := by
  have look : ∀ x e, aLookT tr x = some e → base x + e.1 ≤ aCf lv h x ∧ (e.2 = true → aCf lv h x = base x + e.1) := by
    intro x e he
    unfold aLookT at he
    split at he
    · rename_i q hq
      have h1 := List.find?_some hq
      have e1 := aKeq_s h1
      have h2 := hT q (List.mem_of_find?_eq_some hq) e he
      rw [e1] at h2
      obtain ⟨w, g1, g2⟩ := h2
      unfold aCf
      rw [g1]
      exact g2
    · cases he
  intro R
  induction R with
  | nil => intro R' k _ hl; cases hl
  | cons c r ih =>
    intro R' k hk hl
    cases k with
    | zero => cases hk
    | succ k =>
      have hk2 : r.length ≤ k := Nat.le_of_succ_le_succ hk
      cases R' with
      | nil =>
        rcases c with a | ⟨x, b⟩ | ⟨x, b⟩ <;> cases hl
      | cons c' r' =>
        rcases c with a | ⟨x, b⟩ | ⟨x, b⟩
        · rcases c' with a' | ⟨x', b'⟩ | ⟨x', b'⟩
          · have h1 : (Nat.blt a 1000000000 && (Nat.blt a' a || (Nat.beq a' a && aLt tr lva fs r r'))) = true := hl
            rw [Bool.and_eq_true, Bool.or_eq_true, Bool.and_eq_true] at h1
            have h2 : a < 1000000000 := Nat.le_of_ble_eq_true h1.1
            rcases h1.2 with h3 | h3
            · have h4 : a' < a := Nat.le_of_ble_eq_true h3
              exact ms_step h4 (show a < 10000000000 by omega)
            · exact ms_eq (Nat.eq_of_beq_eq_true h3.1) (ih r' k hk2 h3.2)
          · cases hl
          · cases hl
        · rcases c' with a' | ⟨x', b'⟩ | ⟨x', b'⟩
          · cases hl
          · have h1 : (aKeq x x' && aieq b b' && aile b aBig && (match aLookT tr x with
              | some e => (aile 1 e.1 && aile (aBnd lva fs x).2 b) || (e.2 && aieq e.1 0 && aLt tr lva fs r r')
              | none => false)) = true := hl
            rw [Bool.and_eq_true, Bool.and_eq_true, Bool.and_eq_true] at h1
            obtain ⟨⟨⟨e1, e2⟩, e3⟩, e4⟩ := h1
            have e1' := aKeq_s e1
            have e2' := ai_eq.mp e2
            have e3' : b ≤ 4294967296 := ai_le.mp e3
            subst e1' e2'
            have b0 := hb x
            have b1 := hB x
            cases hlk : aLookT tr x with
            | none => rw [hlk] at e4; cases e4
            | some e =>
              rw [hlk] at e4
              have hc := look x e hlk
              have e5 : ((aile 1 e.1 && aile (aBnd lva fs x).2 b) || (e.2 && aieq e.1 0 && aLt tr lva fs r r')) = true := e4
              rw [Bool.or_eq_true, Bool.and_eq_true, Bool.and_eq_true, Bool.and_eq_true] at e5
              rcases e5 with ⟨g1, g2⟩ | ⟨⟨g0, g1⟩, g2⟩
              · have hc := hc.1
                have g1' := ai_le.mp g1
                have g2' := ai_le.mp g2
                refine ms_step (show (b - aCf lv h x).toNat < (b - base x).toNat by omega) (show (b - base x).toNat < 10000000000 by omega)
              · have hc := hc.2 g0
                have g1' := ai_eq.mp g1
                exact ms_eq (show (b - aCf lv h x).toNat = (b - base x).toNat by rw [hc, g1']; congr 1; omega) (ih r' k hk2 g2)
          · cases hl
        · rcases c' with a' | ⟨x', b'⟩ | ⟨x', b'⟩
          · cases hl
          · cases hl
          · have h1 : (aKeq x x' && aieq b b' && aile (-aBig) b && (match aLookT tr x with
              | some e => (e.2 && aile e.1 (-1) && aile b (aBnd lva fs x).1) || (e.2 && aieq e.1 0 && aLt tr lva fs r r')
              | none => false)) = true := hl
            rw [Bool.and_eq_true, Bool.and_eq_true, Bool.and_eq_true] at h1
            obtain ⟨⟨⟨e1, e2⟩, e3⟩, e4⟩ := h1
            have e1' := aKeq_s e1
            have e2' := ai_eq.mp e2
            have e3' : -4294967296 ≤ b := ai_le.mp e3
            subst e1' e2'
            have b0 := hb x
            have b1 := hB x
            cases hlk : aLookT tr x with
            | none => rw [hlk] at e4; cases e4
            | some e =>
              rw [hlk] at e4
              have hc := look x e hlk
              have e5 : ((e.2 && aile e.1 (-1) && aile b (aBnd lva fs x).1) || (e.2 && aieq e.1 0 && aLt tr lva fs r r')) = true := e4
              rw [Bool.or_eq_true, Bool.and_eq_true, Bool.and_eq_true, Bool.and_eq_true, Bool.and_eq_true] at e5
              rcases e5 with ⟨⟨g0, g1⟩, g2⟩ | ⟨⟨g0, g1⟩, g2⟩
              · have hc := hc.2 g0
                have g1' := ai_le.mp g1
                have g2' := ai_le.mp g2
                refine ms_step (show (aCf lv h x - b).toNat < (base x - b).toNat by omega) (show (base x - b).toNat < 10000000000 by omega)
              · have hc := hc.2 g0
                have g1' := ai_eq.mp g1
                exact ms_eq (show (aCf lv h x - b).toNat = (base x - b).toNat by rw [hc, g1']; congr 1; omega) (ih r' k hk2 g2)
section BF
variable {L : Nat} {xs : Nat → Int32} {d j : Nat} {h0 : aE} {base : aK → Int} {pc : Nat} {lv st : List Value} {h : xH} {S : aS}
theorem le_g {a b : aV} {v : Value} (hl : aLe a b = true) (hg : aG lv h a v) : aG lv h b v := by
  have h0 := le_g0 hl (g_of hg)
  rcases b with _ | ⟨lo, hi, o⟩ | ⟨lo, hi⟩ | cs | ks
  · trivial
  · obtain ⟨x, e, h1, h2⟩ := h0
    refine ⟨x, e, h1, h2, ?_⟩
    cases o with
    | none => trivial
    | some q =>
      obtain ⟨y, f⟩ := q
      rcases a with _ | ⟨lo', hi', o'⟩ | ⟨lo', hi'⟩ | cs' | ks'
      · cases hl
      · cases o' with
        | none =>
          have h3 : (aile lo lo' && aile hi' hi && false) = true := hl
          rw [Bool.and_false] at h3
          cases h3
        | some q' =>
          obtain ⟨y', f'⟩ := q'
          have h3 : (aile lo lo' && aile hi' hi && (aKeq y y' && aieq f f')) = true := hl
          rw [Bool.and_eq_true] at h3
          have h5 := h3.2
          rw [Bool.and_eq_true] at h5
          obtain ⟨x2, e2, -, -, h6⟩ := hg
          have e3 : x = x2 := Value.int.inj (e.symm.trans e2)
          rw [aKeq_s h5.1, ai_eq.mp h5.2, e3]
          exact h6
      · cases hl
      · cases hl
      · cases hl
  · exact h0
  · exact h0
  · exact h0
theorem les_gs : ∀ (as bs : List aV) (vs : List Value), aLes as bs = true → aGs lv h as vs → aGs lv h bs vs
  | [], [], _, _, hg => hg
  | [], _ :: _, _, hl, _ => by cases hl
  | _ :: _, [], _, hl, _ => by cases hl
  | _ :: _, _ :: _, [], _, hg => hg.elim
  | a :: r, b :: s, v :: u, hl, hg => by
    have h1 : (aLe a b && aLes r s) = true := hl
    rw [Bool.and_eq_true] at h1
    exact ⟨le_g h1.1 hg.1, les_gs r s u h1.2 hg.2⟩
theorem les_len : ∀ (as bs : List aV), aLes as bs = true → as.length = bs.length
  | [], [], _ => rfl
  | [], _ :: _, hl => by cases hl
  | _ :: _, [], hl => by cases hl
  | a :: r, b :: s, hl => by
    have h1 : (aLe a b && aLes r s) = true := hl
    rw [Bool.and_eq_true] at h1
    exact congrArg (· + 1) (les_len r s h1.2)
theorem les_get : ∀ (as bs : List aV) (i : Nat) (b : aV), aLes as bs = true → bs[i]? = some b → ∃ a, as[i]? = some a ∧ aLe a b = true
  | [], [], _, _, _, hb => by cases hb
  | [], _ :: _, _, _, hl, _ => by cases hl
  | _ :: _, [], _, _, hl, _ => by cases hl
  | a :: r, b :: s, i, c, hl, hb => by
    have h1 : (aLe a b && aLes r s) = true := hl
    rw [Bool.and_eq_true] at h1
    cases i with
    | zero => cases hb; exact ⟨a, rfl, h1.1⟩
    | succ i => exact les_get r s i c h1.2 hb
theorem les_ls {alv blv : List aV} (hl : aLes alv blv = true) (hL : aLs alv lv) : aLs blv lv := by
  refine ⟨(les_len _ _ hl).symm.trans hL.1, fun i b hb => ?_⟩
  obtain ⟨a, ha, hab⟩ := les_get _ _ _ _ hl hb
  obtain ⟨v, hv, hg⟩ := hL.2 i a ha
  exact ⟨v, hv, le_g0 hab hg⟩
def aAtL (j : Nat) (h0 : aE) (q : aLq) (lv st : List Value) (h : xH) : Prop := aSt j h0 (aCf lv h) (aLst q) lv st h
theorem rkK_s {alv : List aV} {x : aK} (hL : aLs alv lv) (hk : aRkK alv x = true) : aCur lv h x = some (aCf lv h x) := by
  unfold aCf
  rcases x with i | ⟨c, k⟩
  · have hk2 : (match alv[i]? with
      | some (Sum.inr (Sum.inl (_, _, _))) => true
      | _ => false) = true := hk
    split at hk2
    · rename_i lo hi o he
      obtain ⟨v, hv, x, rfl, -, -⟩ := hL.2 i _ he
      rw [cur_Li hv]
      rfl
    · cases hk2
  · rfl
theorem tr0_s {alv : List aV} {R : List aC} (hL : aLs alv lv) (hR : R.all (aRkOk alv) = true) : ∀ q ∈ aTr0 R, ∀ e, q.2 = some e → aWq (aCf lv h) lv h q.1 e := by
  intro q hq e he
  obtain ⟨c, hc, hqc⟩ := List.mem_flatMap.mp hq
  rw [List.all_eq_true] at hR
  have h1 := hR c hc
  rcases c with a | ⟨x, b⟩ | ⟨x, b⟩
  · cases hqc
  · have e1 := List.mem_singleton.mp hqc
    rw [e1] at he ⊢
    have e2 : ((0 : Int), true) = e := Option.some.inj he
    rw [← e2]
    exact ⟨_, rkK_s hL h1, by show aCf lv h x + 0 ≤ aCf lv h x; omega, fun _ => by show aCf lv h x = aCf lv h x + 0; omega⟩
  · have e1 := List.mem_singleton.mp hqc
    rw [e1] at he ⊢
    have e2 : ((0 : Int), true) = e := Option.some.inj he
    rw [← e2]
    exact ⟨_, rkK_s hL h1, by show aCf lv h x + 0 ≤ aCf lv h x; omega, fun _ => by show aCf lv h x = aCf lv h x + 0; omega⟩
theorem ale_s {al : aA} {q : Nat × (Nat × Nat) × Int × Bool} (hu : ∀ p ∈ al, aAlq lv h p) (hq : aAle al q = true) : aAlq lv h q := by
  obtain ⟨p, hp, h1⟩ := List.any_eq_true.mp hq
  rw [Bool.and_eq_true, Bool.and_eq_true] at h1
  obtain ⟨⟨e1, e2⟩, e3⟩ := h1
  obtain ⟨x, g1, g2, g3⟩ := hu p hp
  rw [Nat.eq_of_beq_eq_true e1] at g1
  rw [aPeq_s e2] at g2 g3
  refine ⟨x, g1, ?_⟩
  cases hb : q.2.2.2 with
  | true =>
    rw [hb] at e3
    have h4 : (p.2.2.2 && aieq p.2.2.1 q.2.2.1) = true := e3
    rw [Bool.and_eq_true] at h4
    have h5 := ai_eq.mp h4.2
    have h6 := g3 h4.1
    exact ⟨by omega, fun _ => by omega⟩
  | false =>
    rw [hb] at e3
    have h4 := ai_le.mp e3
    exact ⟨by omega, fun hh => by cases hh⟩
theorem incl_s {q : aLq} (hs : aSt j h0 base S lv st h) (hi : aIncl S q = true) (hR : q.2.2.2.2.1.all (aRkOk q.2.1) = true) : aAtL j h0 q lv st h := by
  obtain ⟨hg, hf, hL, hS, hF, hT⟩ := hs
  unfold aIncl at hi
  rw [Bool.and_eq_true, Bool.and_eq_true, Bool.and_eq_true, Bool.and_eq_true, Bool.and_eq_true, List.all_eq_true, List.all_eq_true, List.all_eq_true, List.all_eq_true] at hi
  obtain ⟨⟨⟨⟨⟨i1, i2⟩, i3⟩, i6⟩, i4⟩, i5⟩ := hi
  have hL2 := les_ls i1 hL
  refine ⟨hg, hf, hL2, les_gs _ _ _ i2 hS, fun p hp => holds_s hg hF (i3 p hp), tr0_s hL2 hR, fun p hp => ale_s hT.2.1 (i6 p hp), fun i hii => hT.2.2.1 i (amem_s (i4 i hii)), fun p hp => ule_s hT.2.2.2 (i5 p hp)⟩
theorem bnd_s {q : aLq} (hs : aAtL j h0 q lv st h) (x : aK) : (aBnd q.2.1 q.2.2.2.1 x).1 ≤ aCf lv h x ∧ aCf lv h x ≤ (aBnd q.2.1 q.2.2.2.1 x).2 := by
  obtain ⟨hg, hf, hL, hS, hF, hT⟩ := hs
  have c := cf_b lv h x
  rcases x with i | ⟨cc, k⟩
  · unfold aBnd
    dsimp only
    split
    · rename_i lo hi o he
      obtain ⟨v, hv, x, rfl, b1, b2⟩ := hL.2 i _ he
      have e : aCf lv h (Sum.inl (i)) = x.toInt := by unfold aCf; rw [cur_Li hv]; rfl
      rw [e]
      exact ⟨b1, b2⟩
    · exact c
  · unfold aBnd
    dsimp only
    cases hb : aHasb cc k && !(aIsRb cc k) with
    | false => exact c
    | true =>
      rw [Bool.and_eq_true] at hb
      exact fk_s hg hF (hasb_s hb.1) (not_s hb.2)
theorem walk_succ (R : List aC) (n : Nat) (first : Bool) : aWalk j R (n + 1) first pc S = (bif !first && (aLead j).any (fun q => Nat.beq q.1 pc) then (aLead j).any (fun q => Nat.beq q.1 pc && aIncl S q && aLt S.2.2.2 q.2.1 q.2.2.2.1 R q.2.2.2.2.1) else match xins (aJ j) pc with
      | none => false
      | some q => match aStep j q pc S with
        | none => false
        | some l => l.all fun s => aWalk j R n false s.1 s.2) := rfl
theorem a_walk (ht : aTab) (hkn : ∀ n, n < j → aOK n) (hd : aDep j ≤ d) (hrk : ∀ q ∈ aLead j, q.2.2.2.2.1.all (aRkOk q.2.1) = true) {R : List aC} (hR : R.length ≤ 30) (hb : ∀ x, -2147483648 ≤ base x ∧ base x ≤ 2147483647) (ih : ∀ q ∈ aLead j, ∀ lv st h, aAtL j h0 q lv st h → aMs (aCf lv h) 30 q.2.2.2.2.1 < aMs base 30 R → aT L xs d j h0 q.1 lv st h) : ∀ (n : Nat) (first : Bool) (pc : Nat) (S : aS) (lv st : List Value) (h : xH), aWalk j R n first pc S = true → aSt j h0 base S lv st h → aT L xs d j h0 pc lv st h := by
  intro n
  induction n with
  | zero => intro first pc S lv st h hw; cases hw
  | succ n ihn =>
    intro first pc S lv st h hw hs
    rw [walk_succ] at hw
    cases hc : (!first && (aLead j).any (fun q => Nat.beq q.1 pc)) with
    | true =>
      rw [hc] at hw
      obtain ⟨q, hq, h1⟩ := List.any_eq_true.mp hw
      rw [Bool.and_eq_true, Bool.and_eq_true] at h1
      obtain ⟨⟨e1, e2⟩, e3⟩ := h1
      have e1' := Nat.eq_of_beq_eq_true e1
      have hA := incl_s hs e2 (hrk q hq)
      rw [← e1']
      refine ih q hq lv st h hA (rlt_s hb hs.2.2.2.2.2.1 (bnd_s hA) R _ 30 hR e3)
    | false =>
      rw [hc] at hw
      dsimp only [cond_false] at hw
      cases hq : xins (aJ j) pc with
      | none => rw [hq] at hw; cases hw
      | some q =>
        rw [hq] at hw
        dsimp only at hw
        cases ha : aStep j q pc S with
        | none => rw [ha] at hw; cases hw
        | some l =>
          rw [ha] at hw
          dsimp only at hw
          rw [List.all_eq_true] at hw
          exact a_step ht hkn hd hq ha hs (fun s hsl lv1 st1 h1 hs1 => ihn false s.1 s.2 lv1 st1 h1 (hw s hsl) hs1)
end BF
