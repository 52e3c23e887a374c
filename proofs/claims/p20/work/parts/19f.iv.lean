/-! stores into locals, and the pure steps as a whole -/
section AP
variable {lv lv' : List Value} {h h' : xH} {base : aB}
/-- what is watched and not lost by f stays -/
def aKeep (f : aK → Bool) (lv : List Value) (h : xH) (lv' : List Value) (h' : xH) : Prop := (∀ x w, f x = false → aCur lv h x = some w → aCur lv' h' x = some w) ∧ ∀ i, f (Sum.inl (i)) = false → f (Sum.inl (i + 1)) = false → lv'[i]? = lv[i]?
theorem k_or {f : aK → Bool} (hk : aKeep f lv h lv' h') {x : aK} {e z : Int} (hf : f x = false) (ho : aOr lv h (some (x, e)) z) : aOr lv' h' (some (x, e)) z := by
  obtain ⟨w, h1, h2⟩ := ho
  exact ⟨w, hk.1 x w hf h1, h2⟩
theorem k_g {f : aK → Bool} (hk : aKeep f lv h lv' h') {a : aV} {v : Value} (hg : aG lv h a v) : aG lv' h' (aDo f a) v := by
  rcases a with _ | ⟨lo, hi, o⟩ | ⟨lo, hi⟩ | cs | ks
  · exact hg
  · obtain ⟨x, e, h1, h2, h3⟩ := hg
    cases o with
    | none => exact ⟨x, e, h1, h2, trivial⟩
    | some q =>
      obtain ⟨y, d⟩ := q
      cases hf : f y with
      | true =>
        have e1 : aDo f (Sum.inr (Sum.inl (lo, hi, some (y, d)))) = (Sum.inr (Sum.inl (lo, hi, none))) := by show (bif f y then _ else _) = _; rw [hf]; rfl
        rw [e1]
        exact ⟨x, e, h1, h2, trivial⟩
      | false =>
        have e1 : aDo f (Sum.inr (Sum.inl (lo, hi, some (y, d)))) = (Sum.inr (Sum.inl (lo, hi, some (y, d)))) := by show (bif f y then _ else _) = _; rw [hf]; rfl
        rw [e1]
        exact ⟨x, e, h1, h2, k_or hk hf h3⟩
  · exact hg
  · exact hg
  · exact hg
theorem k_gs {f : aK → Bool} (hk : aKeep f lv h lv' h') : ∀ (as : List aV) (vs : List Value), aGs lv h as vs → aGs lv' h' (as.map (aDo f)) vs
  | [], _, hg => hg
  | a :: r, [], hg => hg.elim
  | a :: r, v :: s, hg => ⟨k_g hk hg.1, k_gs hk r s hg.2⟩
theorem not_s {b : Bool} (h : (!b) = true) : b = false := by
  cases b with
  | false => rfl
  | true => cases h
theorem cur_L {i : Nat} {w : Int} (hc : aCur lv h (Sum.inl (i)) = some w) : ∃ x : Int32, lv[i]? = some (.int x) ∧ x.toInt = w := by
  have hc2 : (match lv[i]? with | some (.int z) => some z.toInt | _ => none) = some w := hc
  split at hc2
  · rename_i z hz
    exact ⟨z, hz, Option.some.inj hc2⟩
  · cases hc2
theorem cur_Li {i : Nat} {x : Int32} (hc : lv[i]? = some (.int x)) : aCur lv h (Sum.inl (i)) = some x.toInt := by
  show (match lv[i]? with | some (.int z) => some z.toInt | _ => none) = some x.toInt
  rw [hc]
theorem cur_P {f : aK → Bool} (hk : aKeep f lv h lv' h') {c k : Nat} (hf : f (Sum.inr (c, k)) = false) : (h'.2.1 c k).toInt = (h.2.1 c k).toInt := Option.some.inj (hk.1 (Sum.inr (c, k)) _ hf rfl)
theorem k_wq {f : aK → Bool} (hk : aKeep f lv h lv' h') {bs : aK → Int} {x : aK} {e : Int × Bool} (hf : f x = false) (hw : aWq bs lv h x e) : aWq bs lv' h' x e := by
  obtain ⟨w, h1, h2⟩ := hw
  exact ⟨w, hk.1 x w hf h1, h2⟩
theorem k_al {f : aK → Bool} (hk : aKeep f lv h lv' h') {q : Nat × (Nat × Nat) × Int × Bool} (h1 : f (Sum.inl (q.1)) = false) (h2 : f (Sum.inr (q.2.1.1, q.2.1.2)) = false) (ha : aAlq lv h q) : aAlq lv' h' q := by
  obtain ⟨x, e1, e2⟩ := ha
  obtain ⟨y, e3, e4⟩ := cur_L (hk.1 _ _ h1 (cur_Li e1))
  exact ⟨y, e3, by rw [e4, cur_P hk h2]; exact e2⟩
theorem k_up {f : aK → Bool} (hk : aKeep f lv h lv' h') {h0 : xH} {q : (Nat × Nat) × Int × Bool} (h2 : f (Sum.inr (q.1.1, q.1.2)) = false) (ha : aUq h0 h q) : aUq h0 h' q := by
  unfold aUq at ha ⊢
  rw [cur_P hk h2]
  exact ha
theorem k_ts {f : aK → Bool} (hk : aKeep f lv h lv' h') {tr : aTr} (ht : aTs base lv h tr) : aTs base lv' h' (aLose f tr) := by
  refine ⟨?_, ?_, ?_, ?_⟩
  · intro q hq e he
    obtain ⟨p, hp, rfl⟩ := List.mem_map.mp hq
    cases hf : f p.1 with
    | true => rw [hf] at he; cases he
    | false =>
      rw [hf] at he
      exact k_wq hk hf (ht.1 p hp e he)
  · intro q hq
    obtain ⟨h1, h2⟩ := List.mem_filter.mp hq
    rw [Bool.and_eq_true] at h2
    exact k_al hk (not_s h2.1) (not_s h2.2) (ht.2.1 q h1)
  · intro i hi
    obtain ⟨h1, h2⟩ := List.mem_filter.mp hi
    rw [Bool.and_eq_true] at h2
    exact (hk.2 i (not_s h2.1) (not_s h2.2)).trans (ht.2.2.1 i h1)
  · intro q hq
    obtain ⟨h1, h2⟩ := List.mem_filter.mp hq
    exact k_up hk (not_s h2) (ht.2.2.2 q h1)
theorem aPeq_s {p q : Nat × Nat} (h : aPeq p q = true) : p = q := by
  unfold aPeq at h
  rw [Bool.and_eq_true] at h
  exact Prod.ext (Nat.eq_of_beq_eq_true h.1) (Nat.eq_of_beq_eq_true h.2)
theorem aPeq_f {p q : Nat × Nat} (h : aPeq p q = false) : aKeq (Sum.inr (p.1, p.2)) (Sum.inr (q.1, q.2)) = false := h
/-- the value a is what x held, and so much more -/
theorem rel_s {x : aK} {a : aV} {al : aA} {f : Int × Bool} {z : Int} (hr : aRel x a al = some f) (hal : ∀ q ∈ al, aAlq lv h q) (hz : ∀ q, aOf a = some q → aOr lv h (some q) z) : ∃ w, aCur lv h x = some w ∧ w + f.1 ≤ z ∧ (f.2 = true → z = w + f.1) := by
  unfold aRel at hr
  cases ho : aOf a with
  | none => rw [ho] at hr; cases hr
  | some r =>
    obtain ⟨y, g⟩ := r
    rw [ho] at hr
    obtain ⟨w, hw, hzz⟩ := hz _ ho
    have hzz' : z = w + g := hzz
    have hr2 : (bif aKeq y x then some (g, true) else aRelA x y g al) = some f := hr
    cases hy : aKeq y x with
    | true =>
      rw [hy] at hr2
      have e1 : (g, true) = f := Option.some.inj hr2
      rw [← aKeq_s hy, ← e1]
      exact ⟨w, hw, by show w + g ≤ z; omega, fun _ => hzz'⟩
    | false =>
      rw [hy] at hr2
      rcases y with i | p
      · rcases x with i' | ⟨c, k⟩
        · cases hr2
        · dsimp only [cond_false] at hr2
          unfold aRelA at hr2
          dsimp only at hr2
          split at hr2
          · rename_i q hq
            have h1 := List.find?_some hq
            rw [Bool.and_eq_true] at h1
            obtain ⟨u, e1, e2, e2b⟩ := hal q (List.mem_of_find?_eq_some hq)
            have e3 := aPeq_s h1.2
            have e4 := Nat.eq_of_beq_eq_true h1.1
            obtain ⟨u', e5, e6⟩ := cur_L hw
            rw [e4] at e1
            rw [e1] at e5
            have e7 : u = u' := Value.int.inj (Option.some.inj e5)
            have e8 : (q.2.2.1 + g, q.2.2.2) = f := Option.some.inj hr2
            rw [e3] at e2 e2b
            have e2' : (h.2.1 c k).toInt + q.2.2.1 ≤ u.toInt := e2
            rw [← e7] at e6
            rw [← e8]
            refine ⟨(h.2.1 c k).toInt, rfl, ?_, fun hb => ?_⟩
            · show (h.2.1 c k).toInt + (q.2.2.1 + g) ≤ z
              omega
            · have e9 : u.toInt = (h.2.1 c k).toInt + q.2.2.1 := e2b hb
              show z = (h.2.1 c k).toInt + (q.2.2.1 + g)
              omega
          · cases hr2
      · cases hr2
theorem al1_s {k : Nat} {y : aK} {f z : Int} {l : aA} {q : Nat × (Nat × Nat) × Int × Bool} (hk : ∀ c n, (h'.2.1 c n).toInt = (h.2.1 c n).toInt) (hl : ∀ q ∈ l, aAlq lv h q) (hz : aOr lv h (some (y, f)) z) (hc : aCur lv' h' (Sum.inl (k)) = some z) (hq : q ∈ aAl1 k y f l) : aAlq lv' h' q := by
  obtain ⟨w, hw, hzz⟩ := hz
  have hzz' : z = w + f := hzz
  obtain ⟨x, e1, e2⟩ := cur_L hc
  unfold aAl1 at hq
  split at hq
  · rename_i c n
    rw [List.mem_singleton.mp hq]
    have e3 : (h.2.1 c n).toInt = w := Option.some.inj hw
    have e4 := hk c n
    exact ⟨x, e1, by show (h'.2.1 c n).toInt + f ≤ x.toInt; omega, fun _ => by show x.toInt = (h'.2.1 c n).toInt + f; omega⟩
  · rename_i i
    split at hq
    · rename_i p hp
      rw [List.mem_singleton.mp hq]
      have h1 := List.find?_some hp
      obtain ⟨u, g1, g2, g3⟩ := hl p (List.mem_of_find?_eq_some hp)
      rw [Nat.eq_of_beq_eq_true h1] at g1
      obtain ⟨u', g5, g6⟩ := cur_L hw
      rw [g1] at g5
      have e7 : u = u' := Value.int.inj (Option.some.inj g5)
      rw [← e7] at g6
      have e4 := hk p.2.1.1 p.2.1.2
      refine ⟨x, e1, ?_, fun hb => ?_⟩
      · show (h'.2.1 p.2.1.1 p.2.1.2).toInt + (p.2.2.1 + f) ≤ x.toInt
        omega
      · have g9 := g3 hb
        show x.toInt = (h'.2.1 p.2.1.1 p.2.1.2).toInt + (p.2.2.1 + f)
        omega
    · cases hq
theorem k_grow {x : aK} {a : aV} {z : Int} (hk : aKeep (fun y => aKeq y x) lv h lv' h') (hz : ∀ q, aOf a = some q → aOr lv h (some q) z ∧ aCur lv' h' x = some z) {tr : aTr} (ht : aTs base lv h tr) : aTs base lv' h' (aGrow x a tr) := by
  have hrel : ∀ f, aRel x a tr.2.1 = some f → (∃ w, aCur lv h x = some w ∧ w + f.1 ≤ z ∧ (f.2 = true → z = w + f.1)) ∧ aCur lv' h' x = some z := by
    intro f hf
    refine ⟨rel_s hf ht.2.1 (fun q hq => (hz q hq).1), ?_⟩
    cases ho : aOf a with
    | none =>
      unfold aRel at hf
      rw [ho] at hf
      cases hf
    | some r => exact (hz r ho).2
  refine ⟨?_, ?_, ?_, ?_⟩
  · intro q hq e he
    obtain ⟨p, hp, rfl⟩ := List.mem_map.mp hq
    cases hf : aKeq p.1 x with
    | false =>
      rw [hf] at he
      exact k_wq hk hf (ht.1 p hp e he)
    | true =>
      rw [hf] at he
      dsimp only [cond_true] at he ⊢
      have e1 := aKeq_s hf
      cases h2 : p.2 with
      | none => rw [h2] at he; cases he
      | some d =>
        rw [h2] at he
        cases ho : aRel x a tr.2.1 with
        | none => rw [ho] at he; cases he
        | some g =>
          rw [ho] at he
          have e3 : (d.1 + g.1, d.2 && g.2) = e := Option.some.inj he
          obtain ⟨⟨w, hw, hz1, hz2⟩, hc⟩ := hrel g ho
          obtain ⟨w', h3, h4, h5⟩ := ht.1 p hp d h2
          rw [e1, hw] at h3
          have h6 : w = w' := Option.some.inj h3
          rw [← e3, e1]
          rw [e1] at h4 h5
          refine ⟨z, hc, ?_, fun hb => ?_⟩
          · show base.1 x + (d.1 + g.1) ≤ z
            omega
          · have hb2 : (d.2 && g.2) = true := hb
            rw [Bool.and_eq_true] at hb2
            have k1 := h5 hb2.1
            have k2 := hz2 hb2.2
            show z = base.1 x + (d.1 + g.1)
            omega
  · show ∀ q ∈ aGrowA x a tr.2.1, aAlq lv' h' q
    rcases x with k | ⟨c, k⟩
    · have old : ∀ q ∈ tr.2.1.filter (fun q => !(Nat.beq q.1 k)), aAlq lv' h' q := by
        intro q hq
        obtain ⟨h1, h2⟩ := List.mem_filter.mp hq
        exact k_al hk (not_s h2) rfl (ht.2.1 q h1)
      unfold aGrowA
      dsimp only
      split
      · rename_i y f ho
        intro q hq
        rcases List.mem_append.mp hq with hq1 | hq2
        · exact al1_s (fun c n => cur_P hk rfl) ht.2.1 (hz _ ho).1 (hz _ ho).2 hq1
        · exact old q hq2
      · exact old
    · intro q hq
      obtain ⟨h1, h2⟩ := List.mem_filter.mp hq
      exact k_al hk rfl (not_s h2) (ht.2.1 q h1)
  · show ∀ i ∈ aGrowP x tr.2.2.1, lv'[i]? = base.2.2[i]?
    rcases x with k | ⟨c, k⟩
    · intro i hi
      obtain ⟨h1, h2⟩ := List.mem_filter.mp hi
      rw [Bool.and_eq_true] at h2
      exact (hk.2 i (not_s h2.1) (not_s h2.2)).trans (ht.2.2.1 i h1)
    · intro i hi
      exact (hk.2 i rfl rfl).trans (ht.2.2.1 i hi)
  · show ∀ q ∈ aGrowU x (aRel x a tr.2.1) tr.2.2.2, aUq base.2.1 h' q
    rcases x with k | ⟨c, k⟩
    · intro q hq
      exact k_up hk rfl (ht.2.2.2 q hq)
    · intro q hq
      obtain ⟨p, hp, hpq⟩ := List.mem_flatMap.mp hq
      have hu := ht.2.2.2 p hp
      cases he : aPeq p.1 (c, k) with
      | false =>
        rw [he] at hpq
        have e1 := List.mem_singleton.mp hpq
        rw [e1]
        exact k_up hk he hu
      | true =>
        rw [he] at hpq
        dsimp only [cond_true] at hpq
        have ep := aPeq_s he
        cases ho : aRel (Sum.inr (c, k)) a tr.2.1 with
        | none => rw [ho] at hpq; cases hpq
        | some f =>
          rw [ho] at hpq
          obtain ⟨⟨w, hw, hz1, hz2⟩, hc⟩ := hrel f ho
          have e3 : (h.2.1 c k).toInt = w := Option.some.inj hw
          have e4 : (h'.2.1 c k).toInt = z := Option.some.inj hc
          obtain ⟨u1, u2⟩ := hu
          rw [ep] at u1 u2
          dsimp only at u1 u2 hpq
          have e1 := List.mem_singleton.mp hpq
          rw [e1, ep]
          refine ⟨?_, fun hb => ?_⟩
          · show (base.2.1.2.1 c k).toInt + (p.2.1 + f.1) ≤ (h'.2.1 c k).toInt
            omega
          · have hb2 : (p.2.2 && f.2) = true := hb
            rw [Bool.and_eq_true] at hb2
            have k1 := u2 hb2.1
            have k2 := hz2 hb2.2
            show (h'.2.1 c k).toInt = (base.2.1.2.1 c k).toInt + (p.2.1 + f.1)
            omega
theorem st_len (lv : List Value) (k : Nat) (v : Value) : (xst1 lv k v).length = lv.length := by
  unfold xst1
  split
  · exact List.length_set
  · split
    · rw [List.length_set, List.length_set]
    · exact List.length_set
theorem ast_len (lv : List aV) (k : Nat) (v : aV) : (aset1 lv k v).length = lv.length := by
  unfold aset1
  split
  · exact List.length_set
  · split
    · exact List.length_set
    · exact List.length_set
    · exact List.length_set
    · rw [List.length_set, List.length_set]
theorem st_at {k : Nat} {v : Value} (hk : k < lv.length) : (xst1 lv k v)[k]? = some v := by
  unfold xst1
  split
  · exact List.getElem?_set_self hk
  · split
    · rw [List.getElem?_set_ne (by omega)]
      exact List.getElem?_set_self hk
    · exact List.getElem?_set_self hk
/-- another local: as it was, or a long that lost its half -/
theorem st_ne {k i : Nat} {v w : Value} (hi : i ≠ k) (hw : lv[i]? = some w) : (xst1 lv k v)[i]? = some w ∨ (i + 1 = k ∧ ∃ z, w = .long z) := by
  unfold xst1
  split
  · exact Or.inl (by rw [List.getElem?_set_ne (by omega)]; exact hw)
  · rename_i n
    split
    · rename_i z hz
      by_cases e : i = n
      · refine Or.inr ⟨by omega, ?_⟩
        subst e
        rw [hz] at hw
        exact ⟨z, (Option.some.inj hw).symm⟩
      · refine Or.inl ?_
        rw [List.getElem?_set_ne (by omega), List.getElem?_set_ne (by omega)]
        exact hw
    · exact Or.inl (by rw [List.getElem?_set_ne (by omega)]; exact hw)
theorem st_keep {k : Nat} {v : Value} : aKeep (aisL k) lv h (xst1 lv k v) h := by
  refine ⟨?_, ?_⟩
  · intro x w hf hc
    rcases x with i | ⟨c, n⟩
    · have hik : i ≠ k := fun e => by
        have : aisL k (Sum.inl (i)) = Nat.beq i k := rfl
        rw [this, e, Nat.beq_refl] at hf
        cases hf
      cases hw : lv[i]? with
      | none =>
        have : aCur lv h (Sum.inl (i)) = none := by show (match lv[i]? with | some (.int z) => some z.toInt | _ => none) = none; rw [hw]
        rw [this] at hc
        cases hc
      | some u =>
        have hc2 : (match lv[i]? with | some (.int z) => some z.toInt | _ => none) = some w := hc
        rw [hw] at hc2
        show (match (xst1 lv k v)[i]? with | some (.int z) => some z.toInt | _ => none) = some w
        rcases st_ne (v := v) hik hw with h1 | ⟨-, z, rfl⟩
        · rw [h1]; exact hc2
        · cases hc2
    · exact hc
  · intro i h1 h2
    have hik : i ≠ k := fun e => by
      have : aisL k (Sum.inl (i)) = Nat.beq i k := rfl
      rw [this, e, Nat.beq_refl] at h1
      cases h1
    have hik2 : i + 1 ≠ k := fun e => by
      have : aisL k (Sum.inl (i + 1)) = Nat.beq (i + 1) k := rfl
      rw [this, e, Nat.beq_refl] at h2
      cases h2
    cases hw : lv[i]? with
    | none =>
      have hl : lv.length ≤ i := List.getElem?_eq_none_iff.mp hw
      exact List.getElem?_eq_none_iff.mpr (by rw [st_len]; exact hl)
    | some u =>
      rcases st_ne (v := v) hik hw with h3 | ⟨h3, -⟩
      · exact h3
      · exact absurd h3 hik2
def aNL (a : aV) : Prop := match a with
  | (Sum.inl ()) => False
  | (Sum.inr (Sum.inr (Sum.inl (_, _)))) => False
  | _ => True
theorem g0_notlong {a : aV} {v : Value} (hg : aG0 a v) (ha : aNL a) (z : Int64) : v ≠ .long z := by
  rintro rfl
  rcases a with _ | ⟨lo, hi, o⟩ | ⟨lo, hi⟩ | cs | ks
  · exact ha
  · obtain ⟨x, e, -⟩ := hg; cases e
  · exact ha
  · obtain ⟨x, e, -⟩ := hg; cases e
  · obtain ⟨x, e, -⟩ := hg; cases e
theorem ast_at {alv : List aV} {k i : Nat} {a b : aV} (hb : (aset1 alv k a)[i]? = some b) : (i = k ∧ b = a) ∨ b = (Sum.inl ()) ∨ (i ≠ k ∧ alv[i]? = some b ∧ (i + 1 = k → aNL b)) := by
  unfold aset1 at hb
  have key : ∀ {n : Nat}, (alv.set n a)[i]? = some b → (i = n ∧ b = a) ∨ (i ≠ n ∧ alv[i]? = some b) := by
    intro n hn
    by_cases e : i = n
    · subst e
      rw [List.getElem?_set] at hn
      rw [if_pos rfl] at hn
      split at hn
      · exact Or.inl ⟨rfl, (Option.some.inj hn).symm⟩
      · cases hn
    · rw [List.getElem?_set_ne (by omega)] at hn
      exact Or.inr ⟨e, hn⟩
  cases k with
  | zero =>
    rcases key hb with h1 | h1
    · exact Or.inl h1
    · exact Or.inr (Or.inr ⟨h1.1, h1.2, fun e => by omega⟩)
  | succ n =>
    have gen : ((alv.set (n + 1) a).set n (Sum.inl ()))[i]? = some b → (i = n + 1 ∧ b = a) ∨ b = (Sum.inl ()) ∨ (i ≠ n + 1 ∧ alv[i]? = some b ∧ (i + 1 = n + 1 → aNL b)) := by
      intro hb
      by_cases e : i = n
      · subst e
        rw [List.getElem?_set] at hb
        rw [if_pos rfl] at hb
        split at hb
        · exact Or.inr (Or.inl (Option.some.inj hb).symm)
        · cases hb
      · rw [List.getElem?_set_ne (by omega)] at hb
        rcases key hb with h1 | h1
        · exact Or.inl h1
        · exact Or.inr (Or.inr ⟨h1.1, h1.2, fun e => by omega⟩)
    have gen2 : ∀ u, alv[n]? = some u → aNL u → (alv.set (n + 1) a)[i]? = some b → (i = n + 1 ∧ b = a) ∨ b = (Sum.inl ()) ∨ (i ≠ n + 1 ∧ alv[i]? = some b ∧ (i + 1 = n + 1 → aNL b)) := by
      intro u hu hn hb
      rcases key hb with h1 | h1
      · exact Or.inl h1
      · refine Or.inr (Or.inr ⟨h1.1, h1.2, fun e => ?_⟩)
        have e2 : i = n := by omega
        rw [e2, hu] at h1
        rw [← Option.some.inj h1.2]
        exact hn
    dsimp only at hb
    cases hz : alv[n]? with
    | none =>
      rw [hz] at hb
      exact gen hb
    | some u =>
      rw [hz] at hb
      rcases u with _ | ⟨lo, hi, o⟩ | ⟨lo, hi⟩ | cs | ks
      · exact gen hb
      · exact gen2 _ hz trivial hb
      · exact gen hb
      · exact gen2 _ hz trivial hb
      · exact gen2 _ hz trivial hb
theorem ls_st {alv : List aV} {k : Nat} {a : aV} {v : Value} (hL : aLs alv lv) (hk : k < alv.length) (hg : aG0 a v) : aLs (aset1 alv k a) (xst1 lv k v) := by
  refine ⟨by rw [ast_len, st_len]; exact hL.1, fun i b hb => ?_⟩
  have hil : i < lv.length := by
    have := (List.getElem?_eq_some_iff.mp hb).1
    rw [ast_len] at this
    rw [← hL.1]
    exact this
  rcases ast_at hb with ⟨rfl, rfl⟩ | rfl | ⟨h1, h2, h3⟩
  · exact ⟨v, st_at hil, hg⟩
  · have : i < (xst1 lv k v).length := by rw [st_len]; exact hil
    exact ⟨_, List.getElem?_eq_getElem this, trivial⟩
  · obtain ⟨w, hw, hgw⟩ := hL.2 i b h2
    rcases st_ne (v := v) h1 hw with h4 | ⟨h4, z, h5⟩
    · exact ⟨w, h4, hgw⟩
    · exact absurd h5 (g0_notlong hgw (h3 h4) z)
theorem g0_d0 {a : aV} {v : Value} (hg : aG lv h a v) : aG0 (aD0 a) v := by
  rcases a with _ | ⟨lo, hi, o⟩ | ⟨lo, hi⟩ | cs | ks
  · trivial
  · obtain ⟨x, e, h1, h2, -⟩ := hg; exact ⟨x, e, h1, h2⟩
  · exact hg
  · exact hg
  · exact hg
/-- what a pure step keeps -/
def aOKp (base : aB) (h : xH) (r : List aV × List aV × aTr) (q : Option xP) : Prop := ∃ lv1 st1, q = some (lv1, st1) ∧ aLs r.1 lv1 ∧ aGs lv1 h r.2.1 st1 ∧ aTs base lv1 h r.2.2
theorem p_store {k : Nat} {a : aV} {v : Value} {alv as : List aV} {st : List Value} {tr : aTr} {r : List aV × List aV × aTr} (hp : aStore k a alv as tr = some r) (hL : aLs alv lv) (hS : aGs lv h as st) (hT : aTs base lv h tr) (hg : aG lv h a v) : k < lv.length ∧ aLs r.1 (xst1 lv k v) ∧ aGs (xst1 lv k v) h r.2.1 st ∧ aTs base (xst1 lv k v) h r.2.2 := by
  unfold aStore at hp
  cases hb : Nat.blt k alv.length with
  | false => rw [hb] at hp; cases hp
  | true =>
    rw [hb] at hp
    cases hp
    have hk : k < alv.length := Nat.le_of_ble_eq_true hb
    have hk2 : k < lv.length := by rw [← hL.1]; exact hk
    refine ⟨hk2, ls_st hL hk (g0_d0 hg), k_gs st_keep _ _ hS, ?_⟩
    show aTs base (xst1 lv k v) h (aGrow (Sum.inl (k)) a tr)
    rcases a with _ | ⟨lo, hi, o⟩ | ⟨lo, hi⟩ | cs | ks
    · refine k_grow (z := 0) st_keep ?_ hT
      intro q hq
      cases hq
    · obtain ⟨x, e, h1, h2, h3⟩ := hg
      refine k_grow (z := x.toInt) st_keep (fun q hq => ?_) hT
      have e1 : o = some q := hq
      rw [← e1]
      refine ⟨h3, ?_⟩
      show (match (xst1 lv k v)[k]? with | some (.int z) => some z.toInt | _ => none) = some x.toInt
      rw [st_at hk2, e]
    · refine k_grow (z := 0) st_keep ?_ hT
      intro q hq
      cases hq
    · refine k_grow (z := 0) st_keep ?_ hT
      intro q hq
      cases hq
    · refine k_grow (z := 0) st_keep ?_ hT
      intro q hq
      cases hq
end AP
