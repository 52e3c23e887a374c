/-! the heap behind both constructors, in plain words -/
def xr0 : List (List Nat) := [[2, 44, 45, 50, 54, 56, 58, 64, 4, 24], [3], [], [5, 6, 7, 8, 9, 10, 11, 12, 13, 14, 15, 16, 17, 18], [], [], [], [], [], [], [], []]
def xr1 : List (List Nat) := [[], [], [], [], [], [19, 20, 21, 22, 23], [], [], [], [], [], [25, 26, 27, 28, 29, 30, 31, 32, 33, 34, 35, 36, 37, 38]]
def xr2 : List (List Nat) := [[], [], [], [], [], [], [], [], [], [], [], []]
def xr3 : List (List Nat) := [[], [39, 40, 41, 42, 43], [], [], [], [], [], [2, 24], [46, 47, 48, 49], [], [], []]
def xr4 : List (List Nat) := [[], [51, 52, 53], [], [], [], [55], [], [57], [], [59, 60, 61, 62, 63], [], []]
def xr5 : List (List Nat) := [[], [], [], [65, 66, 54, 67, 72, 77, 82], [], [], [68, 69, 70, 71], [], [], [], [], [73, 74, 75, 76]]
def xr6 : List (List Nat) := [[], [], [], [], [78, 79, 80, 81], [], [], [], [], [83, 84, 85, 86], [], []]
def xr7 : List (List Nat) := [[], [], [88, 0, 0, 0, 0, 0, 0, 0, 0, 0, 0, 0, 89, 90, 91, 92, 93, 94, 95, 96, 97, 98, 99, 100, 101, 0, 0, 102, 103, 104, 0, 105, 106, 0, 0, 0, 107, 108, 109, 110, 0, 111, 112, 113, 114, 115, 0, 0, 0, 116, 117, 0, 118, 119, 120, 121, 122, 123, 124], [], [], [], [], [], [], [], [], []]
def xr8 : List (List Nat) := [[], [], [], [], [], [], [], [], [], [], [], []]
def xr9 : List (List Nat) := [[], [], [], [], [], [], [], [], [], [], [], []]
def xr10 : List (List Nat) := [[], [], [], []]
def xrr : List (List (List Nat)) := [xr0, xr1, xr2, xr3, xr4, xr5, xr6, xr7, xr8, xr9, xr10]
def xR0 (c k : Nat) : Nat := ((xrr.getD (c / 12) []).getD (c % 12) []).getD k 0
def xI0 (c k : Nat) : Int32 := bif Nat.beq c 43 then (bif Nat.beq k 3 then (-1) else 0) else (bif Nat.beq c 53 then (bif Nat.beq k 1 then 9 else 0) else (bif Nat.beq c 64 then (bif Nat.ble 7 k then 0 else 3) else (bif Nat.beq c 86 then (bif Nat.beq k 9 then (-1) else 0) else (bif Nat.beq c 119 then (bif Nat.ble 7 k then 0 else 3) else 0))))
/-- rows that are long: their contents stay as they were made -/
def xbig (c : Nat) : Bool := [2, 45, 46, 54, 56, 58, 59, 60, 61, 87, 104, 105, 108, 110, 111, 112, 113, 115, 116, 121].contains c
noncomputable def xhr : xH := match xc1 with
  | some (_, _, _, h) => h
  | none => xh0
noncomputable def xhN : xH := (124, fun c k => bif xbig c then xhr.2.1 c k else xI0 c k, fun c k => bif xbig c then xhr.2.2.1 c k else 0, xR0)
def xagb (h : xH) (c : Nat) : Bool := bif xbig c then true else match xsh c with
  | some (.inl ci) => (List.range (xnf ci)).all fun k => match xty ci k with
    | .long => decide (h.2.2.1 c k = 0)
    | .object _ => decide (h.2.2.2 c k = xR0 c k)
    | .array _ => decide (h.2.2.2 c k = xR0 c k)
    | _ => decide (h.2.1 c k = xI0 c k)
  | some (.inr (_, n)) => (List.range n).all fun k => decide (h.2.1 c k = xI0 c k) && decide (h.2.2.1 c k = 0)
  | none => true
theorem xag_a : (List.range 62).all (xagb xhr) = true := by decide +kernel
theorem xag_b : (List.range' 62 62).all (xagb xhr) = true := by decide +kernel
theorem xbig_arr : ∀ c, c < 124 → xbig c = true → (match xsh c with | some (.inr _) => true | _ => false) = true := by decide +kernel
theorem xagb_s {c : Nat} (hc : c < 124) (h : xagb xhr c = true) : xagr xhr xhN c := by
  unfold xagr
  cases hb : xbig c with
  | true =>
    have h1 := xbig_arr c hc hb
    cases hsh : xsh c with
    | none => trivial
    | some r =>
      rw [hsh] at h1
      cases r with
      | inl ci => cases h1
      | inr tn =>
        intro k hk
        have e1 : xhN.2.1 c k = bif xbig c then xhr.2.1 c k else xI0 c k := rfl
        have e2 : xhN.2.2.1 c k = bif xbig c then xhr.2.2.1 c k else 0 := rfl
        rw [e1, e2, hb]
        exact ⟨rfl, rfl⟩
  | false =>
    unfold xagb at h
    rw [hb] at h
    dsimp only [cond_false] at h
    have e1 : ∀ k, xhN.2.1 c k = xI0 c k := fun k => by
      have : xhN.2.1 c k = bif xbig c then xhr.2.1 c k else xI0 c k := rfl
      rw [this, hb]
      rfl
    have e2 : ∀ k, xhN.2.2.1 c k = 0 := fun k => by
      have : xhN.2.2.1 c k = bif xbig c then xhr.2.2.1 c k else 0 := rfl
      rw [this, hb]
      rfl
    have e3 : ∀ k, xhN.2.2.2 c k = xR0 c k := fun k => rfl
    cases hsh : xsh c with
    | none => trivial
    | some r =>
      rw [hsh] at h
      cases r with
      | inl ci =>
        intro k hk
        have h2 := List.all_eq_true.mp h k (List.mem_range.mpr hk)
        unfold xval
        cases ht : xty ci k <;> rw [ht] at h2 <;> simp only [decide_eq_true_eq] at h2 <;> simp only [e1, e2, e3, h2]
      | inr tn =>
        obtain ⟨t, n⟩ := tn
        intro k hk
        have h2 := List.all_eq_true.mp h k (List.mem_range.mpr hk)
        simp only [Bool.and_eq_true, decide_eq_true_eq] at h2
        exact ⟨by rw [e1, h2.1], by rw [e2, h2.2]⟩
theorem xag_all : ∀ c, c < 124 → xagr xhr xhN c := by
  intro c hc
  by_cases h : c < 62
  · exact xagb_s hc (List.all_eq_true.mp xag_a c (List.mem_range.mpr h))
  · exact xagb_s hc (List.all_eq_true.mp xag_b c (List.mem_range'_1.mpr ⟨by omega, by omega⟩))
theorem xc1_at : xc1 = some (18, [.retAddr 0, .ref 0, .ref 86, .int 0], [], xhr) ∧ xhr.1 = 124 := by
  have h : (match xc1 with | some (pc, lv, st, h) => decide (pc = 18) && decide (lv = [.retAddr 0, .ref 0, .ref 86, .int 0]) && decide (st = []) && decide (h.1 = 124) | none => false) = true := by decide +kernel
  cases hx : xc1 with
  | none => rw [hx] at h; cases h
  | some f =>
    obtain ⟨pc, lv, st, hh⟩ := f
    rw [hx] at h
    simp only [Bool.and_eq_true, decide_eq_true_eq] at h
    obtain ⟨⟨⟨rfl, rfl⟩, rfl⟩, h4⟩ := h
    have e : xhr = hh := by unfold xhr; rw [hx]
    rw [e]
    exact ⟨rfl, h4⟩
