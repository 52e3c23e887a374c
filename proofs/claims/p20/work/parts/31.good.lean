theorem z_2_0 : (List.range' 0 900).all (fun k => decide (xhr.2.1 2 k = 0)) = true := by decide +kernel
theorem z_2 {k : Nat} (hk : k < 900) : xhr.2.1 2 k = 0 := by
  exact  of_decide_eq_true (List.all_eq_true.mp z_2_0 k (List.mem_range'_1.mpr ⟨by omega, by omega⟩))
theorem z_87_0 : (List.range' 0 900).all (fun k => decide (xhr.2.1 87 k = 0)) = true := by decide +kernel
theorem z_87 {k : Nat} (hk : k < 900) : xhr.2.1 87 k = 0 := by
  exact  of_decide_eq_true (List.all_eq_true.mp z_87_0 k (List.mem_range'_1.mpr ⟨by omega, by omega⟩))
theorem z_112_0 : (List.range' 0 1201).all (fun k => decide (xhr.2.1 112 k = 0)) = true := by decide +kernel
theorem z_112_1201 : (List.range' 1201 1200).all (fun k => decide (xhr.2.1 112 k = 0)) = true := by decide +kernel
theorem z_112 {k : Nat} (hk : k < 2401) : xhr.2.1 112 k = 0 := by
  by_cases h0 : k < 1201
  · exact  of_decide_eq_true (List.all_eq_true.mp z_112_0 k (List.mem_range'_1.mpr ⟨by omega, by omega⟩))
  exact  of_decide_eq_true (List.all_eq_true.mp z_112_1201 k (List.mem_range'_1.mpr ⟨by omega, by omega⟩))
theorem z_113_0 : (List.range' 0 1201).all (fun k => decide (xhr.2.1 113 k = 0)) = true := by decide +kernel
theorem z_113_1201 : (List.range' 1201 1200).all (fun k => decide (xhr.2.1 113 k = 0)) = true := by decide +kernel
theorem z_113 {k : Nat} (hk : k < 2401) : xhr.2.1 113 k = 0 := by
  by_cases h0 : k < 1201
  · exact  of_decide_eq_true (List.all_eq_true.mp z_113_0 k (List.mem_range'_1.mpr ⟨by omega, by omega⟩))
  exact  of_decide_eq_true (List.all_eq_true.mp z_113_1201 k (List.mem_range'_1.mpr ⟨by omega, by omega⟩))
theorem z_121_0 : (List.range' 0 100).all (fun k => decide (xhr.2.1 121 k = 0)) = true := by decide +kernel
theorem z_121 {k : Nat} (hk : k < 100) : xhr.2.1 121 k = 0 := by
  exact  of_decide_eq_true (List.all_eq_true.mp z_121_0 k (List.mem_range'_1.mpr ⟨by omega, by omega⟩))
def gdz (c : Nat) : Bool := Nat.beq c 2 || Nat.beq c 87 || Nat.beq c 112 || Nat.beq c 113 || Nat.beq c 121
def gdb (c : Nat) : Bool := match xsh c with
  | some (.inl _) => (aRngT c).all fun q => aSub2 (xI0 c q.1).toInt (xI0 c q.1).toInt q.2
  | some (.inr (_, n)) => bif xbig c then (bif gdz c then (List.range n).all (fun k => aSub2 0 0 (aRng c k)) else !(aFine c) && aieq (aAll c).1 (-2147483648) && aieq (aAll c).2 2147483647) else (List.range n).all fun k => aSub2 (xI0 c k).toInt (xI0 c k).toInt (aRng c k)
  | none => true
theorem gdb_all : (List.range 124).all gdb = true := by decide +kernel
theorem gdz_obj : (List.range 124).all (fun c => match xsh c with | some (.inl _) => !(xbig c) | _ => true) = true := by decide +kernel
theorem sub2_r {x : Int32} {q : Int × Int} (h : aSub2 x.toInt x.toInt q = true) : aIn2 q x := sub2_s h (Int.le_refl _) (Int.le_refl _)
theorem gd_ref : ∀ c, c < 124 → ∀ k, k < 60 → aIsRb c k = true → (aRef c k).contains (xR0 c k - 1) = true ∧ xR0 c k ≠ 0 := by decide +kernel
theorem isRb_lt {c k : Nat} (h : aIsRb c k = true) : c < 124 ∧ k < 60 := by
  unfold aIsRb at h
  cases hs : xsh c with
  | none => rw [hs] at h; cases h
  | some r =>
    rw [hs] at h
    rcases r with ci | ⟨t, n⟩
    · have hc : c < 124 := xsh_lt hs
      refine ⟨hc, ?_⟩
      have hci : ∀ c, c < 124 → (match xsh c with | some (.inl ci) => decide ((xfs ci).length ≤ 60) | _ => true) = true := by decide +kernel
      have h1 := hci c hc
      rw [hs] at h1
      have h2 : (xfs ci).length ≤ 60 := of_decide_eq_true h1
      refine Nat.not_le.mp fun hle => ?_
      have e : xty ci k = .int := by
        unfold xty xfd
        rw [List.getD_eq_getElem?_getD, List.getElem?_eq_none (by omega)]
        rfl
      dsimp only at h
      rw [e] at h
      cases h
    · cases h
theorem good_N : aGood xhN := by
  refine ⟨rfl, ?_, ?_⟩
  · intro c k hh
    have e1 : xhN.2.1 c k = bif xbig c then xhr.2.1 c k else xI0 c k := rfl
    rw [e1]
    unfold aHas at hh
    cases hs : xsh c with
    | none => rw [hs] at hh; exact hh.elim
    | some r =>
      have hc : c < 124 := xsh_lt hs
      have hg := List.all_eq_true.mp gdb_all c (List.mem_range.mpr hc)
      unfold gdb at hg
      rw [hs] at hh hg
      rcases r with ci | ⟨t, n⟩
      · have hz := List.all_eq_true.mp gdz_obj c (List.mem_range.mpr hc)
        rw [hs] at hz
        have hb : xbig c = false := not_s hz
        rw [hb]
        show aIn2 (aRng c k) (xI0 c k)
        unfold aRng
        rw [hs]
        dsimp only
        split
        · rename_i q hq
          have h1 := List.find?_some hq
          have h2 := List.all_eq_true.mp hg q (List.mem_of_find?_eq_some hq)
          rw [Nat.eq_of_beq_eq_true h1] at h2
          exact sub2_r h2
        · exact aw _
      · dsimp only at hh hg
        cases hb : xbig c with
        | false =>
          rw [hb] at hg
          exact sub2_r (List.all_eq_true.mp hg k (List.mem_range.mpr hh))
        | true =>
          rw [hb] at hg
          show aIn2 (aRng c k) (xhr.2.1 c k)
          cases hz : gdz c with
          | false =>
            rw [hz] at hg
            have hg2 : (!(aFine c) && aieq (aAll c).1 (-2147483648) && aieq (aAll c).2 2147483647) = true := hg
            rw [Bool.and_eq_true, Bool.and_eq_true] at hg2
            rw [a_tab.1 c k t n hs (not_s hg2.1.1)]
            have q1 := ai_eq.mp hg2.1.2
            have q2 := ai_eq.mp hg2.2
            have := aw (xhr.2.1 c k)
            exact ⟨by rw [q1]; exact this.1, by rw [q2]; exact this.2⟩
          | true =>
            rw [hz] at hg
            have hg2 := List.all_eq_true.mp (show (List.range n).all (fun k => aSub2 0 0 (aRng c k)) = true from hg) k (List.mem_range.mpr hh)
            have hv : xhr.2.1 c k = 0 := by
              unfold gdz at hz
              simp only [Bool.or_eq_true] at hz
              rcases hz with (((h | h) | h) | h) | h
              · rw [Nat.eq_of_beq_eq_true h] at hs ⊢; cases hs; exact z_2 hh
              · rw [Nat.eq_of_beq_eq_true h] at hs ⊢; cases hs; exact z_87 hh
              · rw [Nat.eq_of_beq_eq_true h] at hs ⊢; cases hs; exact z_112 hh
              · rw [Nat.eq_of_beq_eq_true h] at hs ⊢; cases hs; exact z_113 hh
              · rw [Nat.eq_of_beq_eq_true h] at hs ⊢; cases hs; exact z_121 hh
            rw [hv]
            exact sub2_r (x := 0) hg2
  · intro c k hr
    obtain ⟨h1, h2⟩ := isRb_lt hr
    obtain ⟨h3, h4⟩ := gd_ref c h1 k h2 hr
    refine ⟨xR0 c k - 1, List.contains_iff_mem.mp h3, ?_⟩
    show xR0 c k = xR0 c k - 1 + 1
    omega
