/-! the pure steps as a whole -/
section AQ
variable {lv : List Value} {h : xH} {base : aB} {alv ast : List aV} {st : List Value} {tr : aTr} {r : List aV × List aV × aTr}
theorem s_int {lo hi : Int} {o : Option (aK × Int)} {as : List aV} (hS : aGs lv h ((Sum.inr (Sum.inl (lo, hi, o))) :: as) st) : ∃ x s, st = .int x :: s ∧ lo ≤ x.toInt ∧ x.toInt ≤ hi ∧ aOr lv h o x.toInt ∧ aGs lv h as s := by
  cases st with
  | nil => exact hS.elim
  | cons v s =>
    obtain ⟨⟨x, rfl, h1, h2, h3⟩, h4⟩ := hS
    exact ⟨x, s, rfl, h1, h2, h3, h4⟩
theorem s_lng {lo hi : Int} {as : List aV} (hS : aGs lv h ((Sum.inr (Sum.inr (Sum.inl (lo, hi)))) :: as) st) : ∃ x s, st = .long x :: s ∧ lo ≤ x.toInt ∧ x.toInt ≤ hi ∧ aGs lv h as s := by
  cases st with
  | nil => exact hS.elim
  | cons v s =>
    obtain ⟨⟨x, rfl, h1, h2⟩, h4⟩ := hS
    exact ⟨x, s, rfl, h1, h2, h4⟩
theorem s_ref {cs : List Nat} {as : List aV} (hS : aGs lv h ((Sum.inr (Sum.inr (Sum.inr (Sum.inl (cs))))) :: as) st) : ∃ c s, st = .ref c :: s ∧ c ∈ cs ∧ aGs lv h as s := by
  cases st with
  | nil => exact hS.elim
  | cons v s =>
    obtain ⟨⟨c, rfl, h1⟩, h4⟩ := hS
    exact ⟨c, s, rfl, h1, h4⟩
theorem s_txt {ks : List Nat} {as : List aV} (hS : aGs lv h ((Sum.inr (Sum.inr (Sum.inr (Sum.inr (ks))))) :: as) st) : ∃ c s, st = .retAddr c :: s ∧ c ∈ ks ∧ aGs lv h as s := by
  cases st with
  | nil => exact hS.elim
  | cons v s =>
    obtain ⟨⟨c, rfl, h1⟩, h4⟩ := hS
    exact ⟨c, s, rfl, h1, h4⟩
theorem s_any {a : aV} {as : List aV} (hS : aGs lv h (a :: as) st) : ∃ v s, st = v :: s ∧ aG lv h a v ∧ aGs lv h as s := by
  cases st with
  | nil => exact hS.elim
  | cons v s => exact ⟨v, s, rfl, hS.1, hS.2⟩
theorem g_cat {a : aV} {v : Value} (hg : aG lv h a v) (hk : aKnown a = true) : v.category = aCat a := by
  rcases a with _ | ⟨lo, hi, o⟩ | ⟨lo, hi⟩ | cs | ks
  · cases hk
  · obtain ⟨x, rfl, -⟩ := hg; rfl
  · obtain ⟨x, rfl, -⟩ := hg; rfl
  · obtain ⟨x, rfl, -⟩ := hg; rfl
  · obtain ⟨x, rfl, -⟩ := hg; rfl
theorem g_c1 {a : aV} {v : Value} (hg : aG lv h a v) (hk : a1 a = true) : v.category = 1 := by
  unfold a1 at hk
  rw [Bool.and_eq_true] at hk
  rw [g_cat hg hk.1]
  exact Nat.eq_of_beq_eq_true hk.2
theorem p_x1 {n : Nat} {q : Option xP} (hq : aOKp base h r q) : aOKp base h r (x1 n n q) := by
  unfold x1
  rw [if_pos rfl]
  exact hq
theorem aP_s {alv : List aV} {q : Option (List aV)} (hp : aP alv tr q = some r) : ∃ s, q = some s ∧ r = (alv, s, tr) := by
  cases q with
  | none => cases hp
  | some s => exact ⟨s, rfl, (Option.some.inj hp).symm⟩
theorem p_push {alv : List aV} {a : aV} {v : Value} {q : Option xP} (hp : some (alv, a :: ast, tr) = some r) (hL : aLs alv lv) (hS : aGs lv h ast st) (hT : aTs base lv h tr) (hq : q = some (lv, v :: st)) (hg : aG lv h a v) : aOKp base h r q := by
  cases hp
  exact ⟨lv, v :: st, hq, hL, ⟨hg, hS⟩, hT⟩
theorem p_bin {f : Int → Int → Option (aK × Int) → Int → Int → Option (aK × Int) → List aV → Option aV} {K : Int32 → Int32 → List Value → Option xP} (hp : aP alv tr (aII ast f) = some r) (hL : aLs alv lv) (hS : aGs lv h ast st) (hT : aTs base lv h tr)
    (hf : ∀ a b o c d o' as v (x y : Int32) s, a ≤ x.toInt → x.toInt ≤ b → aOr lv h o x.toInt → c ≤ y.toInt → y.toInt ≤ d → aOr lv h o' y.toInt → f a b o c d o' as = some v → ∃ z, K x y s = some (lv, .int z :: s) ∧ aG lv h v (.int z)) : aOKp base h r (xII st K) := by
  obtain ⟨s, hq, rfl⟩ := aP_s hp
  unfold aII at hq
  split at hq
  · rename_i c d o' a b o as
    obtain ⟨y, s1, rfl, h1, h2, h3, h4⟩ := s_int hS
    obtain ⟨x, s2, rfl, h5, h6, h7, h8⟩ := s_int h4
    split at hq
    · rename_i v hv
      cases hq
      obtain ⟨z, hz, hg⟩ := hf _ _ _ _ _ _ _ _ x y s2 h5 h6 h7 h1 h2 h3 hv
      exact ⟨lv, _, hz, hL, ⟨hg, h8⟩, hT⟩
    · cases hq
  · cases hq
theorem p_jj {f : Int → Int → Int → Int → Option aV} {K : Int64 → Int64 → List Value → Option xP} (hp : aP alv tr (aJJ ast f) = some r) (hL : aLs alv lv) (hS : aGs lv h ast st) (hT : aTs base lv h tr)
    (hf : ∀ a b c d v (x y : Int64) s, a ≤ x.toInt → x.toInt ≤ b → c ≤ y.toInt → y.toInt ≤ d → f a b c d = some v → ∃ z, K x y s = some (lv, z :: s) ∧ aG lv h v z) : aOKp base h r (xJJ st K) := by
  obtain ⟨s, hq, rfl⟩ := aP_s hp
  unfold aJJ at hq
  split at hq
  · rename_i c d a b as
    obtain ⟨y, s1, rfl, h1, h2, h4⟩ := s_lng hS
    obtain ⟨x, s2, rfl, h5, h6, h8⟩ := s_lng h4
    split at hq
    · rename_i v hv
      cases hq
      obtain ⟨z, hz, hg⟩ := hf _ _ _ _ _ x y s2 h5 h6 h1 h2 hv
      exact ⟨lv, _, hz, hL, ⟨hg, h8⟩, hT⟩
    · cases hq
  · cases hq
theorem p_i1 {f : Int → Int → Option (aK × Int) → aV} {K : Int32 → List Value → Option xP} (hp : aP alv tr (aI1 ast f) = some r) (hL : aLs alv lv) (hS : aGs lv h ast st) (hT : aTs base lv h tr)
    (hf : ∀ a b o (x : Int32) s, a ≤ x.toInt → x.toInt ≤ b → ∃ z, K x s = some (lv, z :: s) ∧ aG lv h (f a b o) z) : aOKp base h r (xI st K) := by
  obtain ⟨s, hq, rfl⟩ := aP_s hp
  unfold aI1 at hq
  split at hq
  · rename_i a b o as
    obtain ⟨x, s2, rfl, h5, h6, h7, h8⟩ := s_int hS
    cases hq
    obtain ⟨z, hz, hg⟩ := hf a b o x s2 h5 h6
    exact ⟨lv, _, hz, hL, ⟨hg, h8⟩, hT⟩
  · cases hq
theorem p_ldI {k : Nat} (hp : aldI alv ast tr k = some r) (hL : aLs alv lv) (hS : aGs lv h ast st) (hT : aTs base lv h tr) : aOKp base h r (xldI lv k fun x => some (lv, .int x :: st)) := by
  unfold aldI at hp
  split at hp
  · rename_i lo hi o hk
    obtain ⟨v, hv, x, rfl, h1, h2⟩ := hL.2 k _ hk
    cases hp
    refine ⟨lv, .int x :: st, ?_, hL, ⟨⟨x, rfl, h1, h2, x.toInt, ?_, by omega⟩, hS⟩, hT⟩
    · unfold xldI; rw [hv]
    · show (match lv[k]? with | some (.int z) => some z.toInt | _ => none) = some x.toInt
      rw [hv]
  · cases hp
theorem p_ldJ {k : Nat} (hp : aldJ alv ast tr k = some r) (hL : aLs alv lv) (hS : aGs lv h ast st) (hT : aTs base lv h tr) : aOKp base h r (xldJ lv k fun x => some (lv, .long x :: st)) := by
  unfold aldJ at hp
  split at hp
  · rename_i lo hi hk
    obtain ⟨v, hv, x, rfl, h1, h2⟩ := hL.2 k _ hk
    cases hp
    refine ⟨lv, .long x :: st, ?_, hL, ⟨⟨x, rfl, h1, h2⟩, hS⟩, hT⟩
    unfold xldJ; rw [hv]
  · cases hp
theorem p_ldA {k : Nat} (hp : aldA alv ast tr k = some r) (hL : aLs alv lv) (hS : aGs lv h ast st) (hT : aTs base lv h tr) : aOKp base h r (xldA lv k fun x => some (lv, x :: st)) := by
  unfold aldA at hp
  split at hp
  · rename_i cs hk
    obtain ⟨v, hv, x, rfl, h1⟩ := hL.2 k _ hk
    cases hp
    refine ⟨lv, .ref x :: st, ?_, hL, ⟨⟨x, rfl, h1⟩, hS⟩, hT⟩
    unfold xldA; rw [hv]
  · rename_i ks hk
    obtain ⟨v, hv, x, rfl, h1⟩ := hL.2 k _ hk
    cases hp
    refine ⟨lv, .retAddr x :: st, ?_, hL, ⟨⟨x, rfl, h1⟩, hS⟩, hT⟩
    unfold xldA; rw [hv]
  · cases hp
theorem p_stI {k : Nat} (hp : astI alv ast tr k = some r) (hL : aLs alv lv) (hS : aGs lv h ast st) (hT : aTs base lv h tr) : aOKp base h r (xstI lv st k) := by
  unfold astI at hp
  split at hp
  · rename_i lo hi o as
    obtain ⟨x, s, rfl, h1, h2, h3, h4⟩ := s_int hS
    obtain ⟨a, b, c, d⟩ := p_store (v := .int x) hp hL h4 hT ⟨x, rfl, h1, h2, h3⟩
    refine ⟨_, _, ?_, b, c, d⟩
    show (if k < lv.length then _ else _) = _
    rw [if_pos a]
  · cases hp
theorem p_stA {k : Nat} (hp : astA alv ast tr k = some r) (hL : aLs alv lv) (hS : aGs lv h ast st) (hT : aTs base lv h tr) : aOKp base h r (xstA lv st k) := by
  unfold astA at hp
  split at hp
  · rename_i cs as
    obtain ⟨x, s, rfl, h1, h4⟩ := s_ref hS
    obtain ⟨a, b, c, d⟩ := p_store (v := .ref x) hp hL h4 hT ⟨x, rfl, h1⟩
    refine ⟨_, _, ?_, b, c, d⟩
    show (if k < lv.length then _ else _) = _
    rw [if_pos a]
  · cases hp
theorem p_inc {k : Nat} {n : Int32} (hp : ainc alv ast tr k n.toInt = some r) (hL : aLs alv lv) (hS : aGs lv h ast st) (hT : aTs base lv h tr) : aOKp base h r (xldI lv k fun x => some (xst1 lv k (.int (x + n)), st)) := by
  unfold ainc at hp
  split at hp
  · rename_i lo hi o hk
    obtain ⟨v, hv, x, rfl, h1, h2⟩ := hL.2 k _ hk
    have hc : aCur lv h (Sum.inl (k)) = some x.toInt := by
      show (match lv[k]? with | some (.int z) => some z.toInt | _ => none) = some x.toInt
      rw [hv]
    obtain ⟨a, b, c, d⟩ := p_store (v := .int (x + n)) hp hL hS hT (g_add h1 h2 ⟨x.toInt, hc, by omega⟩ (Int.le_refl _) (Int.le_refl _) trivial)
    refine ⟨_, _, ?_, b, c, d⟩
    unfold xldI
    rw [hv]
  · cases hp
theorem st2_keep {k : Nat} {v : Value} : aKeep (fun x => aisL k x || aisL (k + 1) x) lv h (xst2 lv k v) h := by
  refine ⟨?_, ?_⟩
  · intro x w hf hc
    have hf2 := Bool.or_eq_false_iff.mp hf
    have h1 := (st_keep (k := k) (v := v)).1 x w hf2.1 hc
    rcases x with i | ⟨c, n⟩
    · have hik : i ≠ k + 1 := fun e => by
        have : aisL (k + 1) (Sum.inl (i)) = Nat.beq i (k + 1) := rfl
        rw [this, e, Nat.beq_refl] at hf2
        cases hf2.2
      have h2 : (match (xst1 lv k v)[i]? with | some (.int z) => some z.toInt | _ => none) = some w := h1
      show (match ((xst1 lv k v).set (k + 1) xmk)[i]? with | some (.int z) => some z.toInt | _ => none) = some w
      rw [List.getElem?_set_ne (by omega)]
      exact h2
    · exact hc
  · intro i h1 h2
    have f1 := Bool.or_eq_false_iff.mp h1
    have f2 := Bool.or_eq_false_iff.mp h2
    have h3 := (st_keep (lv := lv) (h := h) (k := k) (v := v)).2 i f1.1 f2.1
    have hik : i ≠ k + 1 := fun e => by
      have : aisL (k + 1) (Sum.inl (i)) = Nat.beq i (k + 1) := rfl
      rw [this, e, Nat.beq_refl] at f1
      cases f1.2
    show ((xst1 lv k v).set (k + 1) xmk)[i]? = lv[i]?
    rw [List.getElem?_set_ne (by omega)]
    exact h3
theorem p_stJ {k : Nat} (hp : astJ alv ast tr k = some r) (hL : aLs alv lv) (hS : aGs lv h ast st) (hT : aTs base lv h tr) : aOKp base h r (xstJ lv st k) := by
  unfold astJ at hp
  split at hp
  · rename_i lo hi as
    obtain ⟨x, s, rfl, h1, h2, h4⟩ := s_lng hS
    cases hb : Nat.blt (k + 1) alv.length with
    | false => rw [hb] at hp; cases hp
    | true =>
      rw [hb] at hp
      cases hp
      have hk : k + 1 < alv.length := Nat.le_of_ble_eq_true hb
      have hk2 : k + 1 < lv.length := by rw [← hL.1]; exact hk
      have h5 : aLs (aset1 alv k (Sum.inr (Sum.inr (Sum.inl (lo, hi))))) (xst1 lv k (.long x)) := ls_st hL (by omega) ⟨x, rfl, h1, h2⟩
      refine ⟨xst2 lv k (.long x), s, ?_, ?_, k_gs st2_keep _ _ h4, k_ts st2_keep hT⟩
      · show (if k + 1 < lv.length then _ else _) = _
        rw [if_pos hk2]
      · refine ⟨?_, fun i b hb => ?_⟩
        · show ((aset1 alv k (Sum.inr (Sum.inr (Sum.inl (lo, hi))))).set (k + 1) (Sum.inl ())).length = ((xst1 lv k (.long x)).set (k + 1) xmk).length
          rw [List.length_set, List.length_set]
          exact h5.1
        · have hb2 : ((aset1 alv k (Sum.inr (Sum.inr (Sum.inl (lo, hi))))).set (k + 1) (Sum.inl ()))[i]? = some b := hb
          by_cases e : i = k + 1
          · subst e
            rw [List.getElem?_set, if_pos rfl] at hb2
            split at hb2
            · cases hb2
              refine ⟨xmk, ?_, trivial⟩
              show ((xst1 lv k (.long x)).set (k + 1) xmk)[k + 1]? = some xmk
              exact List.getElem?_set_self (by rw [st_len]; exact hk2)
            · cases hb2
          · rw [List.getElem?_set_ne (by omega)] at hb2
            obtain ⟨w, hw, hg⟩ := h5.2 i b hb2
            refine ⟨w, ?_, hg⟩
            show ((xst1 lv k (.long x)).set (k + 1) xmk)[i]? = some w
            rw [List.getElem?_set_ne (by omega)]
            exact hw
  · cases hp
end AQ
