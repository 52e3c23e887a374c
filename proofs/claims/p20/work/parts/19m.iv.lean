/-! branches -/
theorem cnd_s {c : ClassFile.Cond} {x y : Int32} {a b e f : Int} (hx1 : a ≤ x.toInt) (hx2 : x.toInt ≤ b) (hy1 : e ≤ y.toInt) (hy2 : y.toInt ≤ f) (hc : xcnd c x y = true) : aIn2 (aCnd c a b e f).1 x ∧ aIn2 (aCnd c a b e f).2 y := by
  cases c with
  | eq =>
    have h1 : x = y := of_decide_eq_true hc
    subst h1
    exact ⟨⟨amax_g hx1 hy1, amin_g hx2 hy2⟩, ⟨amax_g hx1 hy1, amin_g hx2 hy2⟩⟩
  | ne =>
    have h1 : x ≠ y := fun z => by
      have h2 : (!decide (x = y)) = true := hc
      rw [decide_eq_true z] at h2
      cases h2
    have h3 : x.toInt ≠ y.toInt := fun z => h1 (Int32.toInt_inj.mp z)
    refine ⟨⟨?_, ?_⟩, ⟨hy1, hy2⟩⟩
    · show (bif aieq e f && aieq a e then a + 1 else a) ≤ x.toInt
      cases hb : aieq e f && aieq a e with
      | false => exact hx1
      | true =>
        rw [Bool.and_eq_true] at hb
        have e1 := ai_eq.mp hb.1
        have e2 := ai_eq.mp hb.2
        show a + 1 ≤ x.toInt
        omega
    · show x.toInt ≤ (bif aieq e f && aieq b e then b - 1 else b)
      cases hb : aieq e f && aieq b e with
      | false => exact hx2
      | true =>
        rw [Bool.and_eq_true] at hb
        have e1 := ai_eq.mp hb.1
        have e2 := ai_eq.mp hb.2
        show x.toInt ≤ b - 1
        omega
  | lt =>
    have h1 := Int32.lt_iff_toInt_lt.mp (of_decide_eq_true hc)
    exact ⟨⟨hx1, amin_g hx2 (by omega)⟩, ⟨amax_g hy1 (by omega), hy2⟩⟩
  | ge =>
    have h1 := Int32.le_iff_toInt_le.mp (of_decide_eq_true hc)
    exact ⟨⟨amax_g hx1 (by omega), hx2⟩, ⟨hy1, amin_g hy2 (by omega)⟩⟩
  | gt =>
    have h1 := Int32.lt_iff_toInt_lt.mp (of_decide_eq_true hc)
    exact ⟨⟨amax_g hx1 (by omega), hx2⟩, ⟨hy1, amin_g hy2 (by omega)⟩⟩
  | le =>
    have h1 := Int32.le_iff_toInt_le.mp (of_decide_eq_true hc)
    exact ⟨⟨hx1, amin_g hx2 (by omega)⟩, ⟨amax_g hy1 (by omega), hy2⟩⟩
theorem neg_s {c : ClassFile.Cond} {x y : Int32} (hc : xcnd c x y = false) : xcnd (aNeg c) x y = true := by
  cases c with
  | eq => show (!decide (x = y)) = true; have h1 : decide (x = y) = false := hc; rw [h1]; rfl
  | ne =>
    have h1 : (!decide (x = y)) = false := hc
    show decide (x = y) = true
    cases e : decide (x = y) with
    | true => rfl
    | false => rw [e] at h1; cases h1
  | lt => exact xcd_ge (by have h1 : ¬ x < y := of_decide_eq_false hc; have h2 : ¬ x.toInt < y.toInt := fun z => h1 (Int32.lt_iff_toInt_lt.mpr z); omega)
  | ge => exact xcd_lt (by have h1 : ¬ y ≤ x := of_decide_eq_false hc; have h2 : ¬ y.toInt ≤ x.toInt := fun z => h1 (Int32.le_iff_toInt_le.mpr z); omega)
  | gt => exact xcd_le (by have h1 : ¬ y < x := of_decide_eq_false hc; have h2 : ¬ y.toInt < x.toInt := fun z => h1 (Int32.lt_iff_toInt_lt.mpr z); omega)
  | le => exact xcd_gt (by have h1 : ¬ x ≤ y := of_decide_eq_false hc; have h2 : ¬ x.toInt ≤ y.toInt := fun z => h1 (Int32.le_iff_toInt_le.mpr z); omega)
theorem hasb_s {c k : Nat} (hb : aHasb c k = true) : aHas c k := by
  unfold aHasb at hb
  unfold aHas
  split at hb
  · rename_i e; rw [e]; trivial
  · rename_i e; rw [e]; exact Nat.le_of_ble_eq_true hb
  · cases hb
section AN
variable {L : Nat} {xs : Nat → Int32} {d j : Nat} {h0 : aE} {base : aK → Int} {pc : Nat} {alv ast r : List aV} {fs : aFs} {tr : aTr} {lv st s : List Value} {h : xH} {l : List (Nat × aS)} {S : aS}
/-- a place lies between lo and hi too -/
theorem rfnP_s {c k : Nat} {q : Int × Int} (hs : aSt j h0 base S lv st h) (hq : aIn2 q (h.2.1 c k)) : aSt j h0 base (aRfnP aRng c k q S) lv st h := by
  obtain ⟨hg, hf, hL, hS, hF, hT⟩ := hs
  unfold aRfnP
  cases hb : aHasb c k && !(aIsRb c k) with
  | false => exact ⟨hg, hf, hL, hS, hF, hT⟩
  | true =>
    rw [Bool.and_eq_true] at hb
    have hnr := not_s hb.2
    refine ⟨hg, hf, hL, hS, ?_, hT⟩
    intro p hpm
    rcases List.mem_cons.mp hpm with rfl | hpm2
    · have b := fk_s hg hF (hasb_s hb.1) hnr
      refine ⟨fun hh => ?_, fun _ => ⟨amax_g b.1 hq.1, amin_g b.2 hq.2⟩⟩
      have hh2 : aIsRb c k = true := hh
      rw [hnr] at hh2
      cases hh2
    · exact hF p hpm2
theorem rfnA_s {i : Nat} {q : Int × Int} {x : Int32} (hs : aSt j h0 base S lv st h) (hx : lv[i]? = some (.int x)) (hq : aIn2 q x) : aSt j h0 base (aRfnA aRng i q S) lv st h := by
  unfold aRfnA
  split
  · rename_i p hp
    have h1 := List.find?_some hp
    rw [Bool.and_eq_true] at h1
    obtain ⟨y, e1, -, e2b⟩ := hs.2.2.2.2.2.2.1 p (List.mem_of_find?_eq_some hp)
    have e2 := e2b h1.2
    rw [Nat.eq_of_beq_eq_true h1.1, hx] at e1
    have e3 : x = y := Value.int.inj (Option.some.inj e1)
    obtain ⟨g1, g2⟩ := hq
    rw [e3] at g1 g2
    refine rfnP_s hs ⟨?_, ?_⟩
    · show q.1 - p.2.2.1 ≤ (h.2.1 p.2.1.1 p.2.1.2).toInt
      omega
    · show (h.2.1 p.2.1.1 p.2.1.2).toInt ≤ q.2 - p.2.2.1
      omega
  · exact hs
theorem rfn_s {o : Option (aK × Int)} {q : Int × Int} {z : Int} (hs : aSt j h0 base S lv st h) (ho : aOr lv h o z) (h1 : q.1 ≤ z) (h2 : z ≤ q.2) : aSt j h0 base (aRfn aRng o q S) lv st h := by
  rcases o with _ | ⟨x, e⟩
  · exact hs
  · obtain ⟨w, hw, hz⟩ := ho
    rcases x with i | ⟨c, k⟩
    · unfold aRfn
      dsimp only
      split
      · rename_i lo hi p hi1
        obtain ⟨x, hx, hxw⟩ := cur_L hw
        refine rfnA_s (x := x) ?_ hx ⟨by show q.1 - e ≤ x.toInt; omega, by show x.toInt ≤ q.2 - e; omega⟩
        obtain ⟨hg, hf, hL, hS, hF, hT⟩ := hs
        refine ⟨hg, hf, ⟨?_, fun n a hn => ?_⟩, hS, hF, hT⟩
        · show (S.1.set i _).length = lv.length
          rw [List.length_set]
          exact hL.1
        · have hn2 : (S.1.set i (Sum.inr (Sum.inl (amax lo (q.1 - e), amin hi (q.2 - e), p))))[n]? = some a := hn
          by_cases en : n = i
          · subst en
            rw [List.getElem?_set, if_pos rfl] at hn2
            split at hn2
            · cases hn2
              obtain ⟨v, hv, y, rfl, b1, b2⟩ := hL.2 n _ hi1
              rw [hx] at hv
              have e9 : x = y := Value.int.inj (Option.some.inj hv)
              subst e9
              exact ⟨_, hx, x, rfl, amax_g b1 (by omega), amin_g b2 (by omega)⟩
            · cases hn2
          · rw [List.getElem?_set_ne (by omega)] at hn2
            exact hL.2 n a hn2
      · exact hs
    · have hw2 : (h.2.1 c k).toInt = w := Option.some.inj hw
      exact rfnP_s hs ⟨by show q.1 - e ≤ (h.2.1 c k).toInt; omega, by show (h.2.1 c k).toInt ≤ q.2 - e; omega⟩
end AN
