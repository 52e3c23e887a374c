def tIn (f : Nat → Int) (U : Nat) : Nat → List (Nat × Nat)
  | 0 => []
  | m + 1 => tIn f U m ++ (if f m = ((U % 24 : Nat) : Int) then [(U, m)] else [])
def tOut (f : Nat → Int) (M : Nat) : Nat → List (Nat × Nat)
  | 0 => []
  | U + 1 => tOut f M U ++ tIn f U M
theorem tIn_l (f : Nat → Int) (U : Nat) : ∀ m, (tIn f U m).length = cIn f ((U % 24 : Nat) : Int) m
  | 0 => rfl
  | m + 1 => by
    show (tIn f U m ++ (if f m = ((U % 24 : Nat) : Int) then [(U, m)] else [])).length = cIn f ((U % 24 : Nat) : Int) m + (if f m = ((U % 24 : Nat) : Int) then 1 else 0)
    rw [List.length_append, tIn_l f U m]
    split <;> rfl
theorem tOut_l (f : Nat → Int) (M : Nat) : ∀ U, (tOut f M U).length = cOut f M U
  | 0 => rfl
  | U + 1 => by
    show (tOut f M U ++ tIn f U M).length = cOut f M U + cIn f ((U % 24 : Nat) : Int) M
    rw [List.length_append, tOut_l f M U, tIn_l]
theorem t_ap {l : List (Nat × Nat)} {x y : Nat × Nat} {t : Nat} (h : (l ++ [x])[t]? = some y) : (t < l.length ∧ l[t]? = some y) ∨ (t = l.length ∧ x = y) := by
  rw [List.getElem?_append] at h
  split at h
  · exact Or.inl ⟨by assumption, h⟩
  · right
    cases hq : t - l.length with
    | zero => rw [hq] at h; exact ⟨by omega, by simpa using h⟩
    | succ k => rw [hq] at h; simp at h
/-- the class's rows of times -/
def tX_3 (I0 : Nat → Nat → Int32) (l : List (Nat × Nat)) (I : Nat → Nat → Int32) : Prop := (∀ c q, ¬ (18 ≤ c ∧ c ≤ 22) → ¬ (c = 17 ∧ q = 5) → I c q = I0 c q) ∧ (I 17 5).toInt = l.length ∧ ∀ (t a b : Nat), l[t]? = some (a, b) → (I 18 t).toInt = a ∧ (I 19 t).toInt = b ∧ I 20 t = I0 7 b ∧ I 21 t = I0 8 b ∧ I 22 t = I0 10 b
theorem tl_3 {L : Nat} {xs : Nat → Int32} {d : Nat} {J : Nat → Nat → Int64} {R : Nat → Nat → Nat} (hG : aGd R) {I0 : Nat → Nat → Int32} {M : Nat} (hM : (I0 3 15).toInt = M) (hM2 : M ≤ 16) (f : Nat → Int) (hf : f = fun k => (I0 9 k).toInt) {u : Int32} {U : Nat} (hu : u.toInt = U) (hU : U < 96) : ∀ (q : Nat) (m : Int32) (m' : Nat) (I : Nat → Nat → Int32), M - m' = q → m.toInt = m' → m' ≤ M → tX_3 I0 (tOut f M U ++ tIn f U m') I → ∃ (I' : Nat → Nat → Int32) (w : Value), tX_3 I0 (tOut f M (U + 1)) I' ∧ ∀ vv h', xEv L xs (d + 2) 43 2 [.ref 3, .int (u + 1), w] [] (124, I', J, R) vv h' → xEv L xs (d + 2) 43 10 [.ref 3, .int u, .int m] [] (124, I, J, R) vv h' := by
  intro q
  induction q with
  | zero =>
    intro m m' I h1 h2 h3 hI
    have e : m' = M := by omega
    subst e
    have i1 : I 3 15 = I0 3 15 := hI.1 3 15 (by omega) (by omega)
    exact ⟨I, _, hI, fun vv h' hk => lt_c_3 hG (by rw [i1]; omega) hk⟩
  | succ q ih =>
    intro m m' I h1 h2 h3 hI
    obtain ⟨i0, i3, i4⟩ := hI
    have i1 : I 3 15 = I0 3 15 := i0 3 15 (by omega) (by omega)
    have ei := i_add1 (x := m) (by omega)
    have ec := clamp_s (i := m) (by omega)
    have e2 : m.toNatClampNeg = m' := by omega
    have er := rem24 hu
    have ef : f m' = (I 9 m').toInt := by rw [hf, i0 9 m' (by omega) (by omega)]
    have hcS : cIn f ((U % 24 : Nat) : Int) (m' + 1) = cIn f ((U % 24 : Nat) : Int) m' + (if f m' = ((U % 24 : Nat) : Int) then 1 else 0) := rfl
    have htS : tIn f U (m' + 1) = tIn f U m' ++ (if f m' = ((U % 24 : Nat) : Int) then [(U, m')] else []) := rfl
    have hl : (tOut f M U ++ tIn f U m').length = cOut f M U + cIn f ((U % 24 : Nat) : Int) m' := by rw [List.length_append, tOut_l, tIn_l]
    have at1 : ∀ c, (∀ g : FieldType → Nat → Option xR, xarr (124, I, J, R) c g = g .int 16) → xEv L xs (d + 1) 39 0 [.ref c, .int m] [] (124, I, J, R) (some (.int (I c m'))) (124, I, J, R) := by
      intro c ho
      have h4 := at_run (L := L) (xs := xs) (d := d + 1) (h := (124, I, J, R)) ho (by decide) m
      rw [if_pos ⟨by omega, by omega⟩, e2] at h4
      exact h4
    by_cases hq : (I 9 m').toInt = ((U % 24 : Nat) : Int)
    · rw [if_pos (by rw [ef]; exact hq)] at hcS htS
      have hle := cnt_le f hU (m := m' + 1) (M := M) (by omega)
      have ea : (I 17 5 + 1).toInt = (I 17 5).toInt + 1 := i_add1 (by omega)
      have ek := clamp_s (i := I 17 5) (by omega)
      have ek2 : (I 17 5).toNatClampNeg = (tOut f M U ++ tIn f U m').length := by omega
      obtain ⟨I', w, a1, a2⟩ := ih (m + 1) (m' + 1) (uI (uI (uI (uI (uI (uI I 18 (I 17 5).toNatClampNeg u) 19 (I 17 5).toNatClampNeg m) 20 (I 17 5).toNatClampNeg (I 7 m')) 21 (I 17 5).toNatClampNeg (I 8 m')) 22 (I 17 5).toNatClampNeg (I 10 m')) 17 5 (I 17 5 + 1)) (by omega) (by omega) (by omega) (by
        rw [htS, ← List.append_assoc]
        refine ⟨fun c q g1 g2 => ?_, ?_, fun t a b ht => ?_⟩
        · rw [uI_n _ _ g2, uI_c _ _ _ (by omega), uI_c _ _ _ (by omega), uI_c _ _ _ (by omega), uI_c _ _ _ (by omega), uI_c _ _ _ (by omega)]
          exact i0 c q g1 g2
        · rw [uI_s, List.length_append]
          show _ = ((_ + 1 : Nat) : Int)
          omega
        · rw [ek2]
          rcases t_ap ht with ⟨g1, g2⟩ | ⟨g1, g2⟩
          · obtain ⟨b1, b2, b3, b4, b5⟩ := i4 t a b g2
            have hne : t ≠ (tOut f M U ++ tIn f U m').length := by omega
            refine ⟨?_, ?_, ?_, ?_, ?_⟩
            · rw [uI_c _ _ _ (by decide), uI_c _ _ _ (by decide), uI_c _ _ _ (by decide), uI_c _ _ _ (by decide), uI_c _ _ _ (by decide), uI_n _ _ (fun z => hne z.2)]; exact b1
            · rw [uI_c _ _ _ (by decide), uI_c _ _ _ (by decide), uI_c _ _ _ (by decide), uI_c _ _ _ (by decide), uI_n _ _ (fun z => hne z.2), uI_c _ _ _ (by decide)]; exact b2
            · rw [uI_c _ _ _ (by decide), uI_c _ _ _ (by decide), uI_c _ _ _ (by decide), uI_n _ _ (fun z => hne z.2), uI_c _ _ _ (by decide), uI_c _ _ _ (by decide)]; exact b3
            · rw [uI_c _ _ _ (by decide), uI_c _ _ _ (by decide), uI_n _ _ (fun z => hne z.2), uI_c _ _ _ (by decide), uI_c _ _ _ (by decide), uI_c _ _ _ (by decide)]; exact b4
            · rw [uI_c _ _ _ (by decide), uI_n _ _ (fun z => hne z.2), uI_c _ _ _ (by decide), uI_c _ _ _ (by decide), uI_c _ _ _ (by decide), uI_c _ _ _ (by decide)]; exact b5
          · obtain ⟨rfl, rfl⟩ := Prod.mk.inj g2
            subst g1
            refine ⟨?_, ?_, ?_, ?_, ?_⟩
            · rw [uI_c _ _ _ (by decide), uI_c _ _ _ (by decide), uI_c _ _ _ (by decide), uI_c _ _ _ (by decide), uI_c _ _ _ (by decide), uI_s]; exact hu
            · rw [uI_c _ _ _ (by decide), uI_c _ _ _ (by decide), uI_c _ _ _ (by decide), uI_c _ _ _ (by decide), uI_s]; exact h2
            · rw [uI_c _ _ _ (by decide), uI_c _ _ _ (by decide), uI_c _ _ _ (by decide), uI_s]; exact i0 _ _ (by omega) (by omega)
            · rw [uI_c _ _ _ (by decide), uI_c _ _ _ (by decide), uI_s]; exact i0 _ _ (by omega) (by omega)
            · rw [uI_c _ _ _ (by decide), uI_s]; exact i0 _ _ (by omega) (by omega))
      exact ⟨I', w, a1, fun vv h' hk => lt_e_3 hG (by rw [i1]; omega) (at1 9 (fun _ => rfl)) (by rw [hq, er]) (at1 7 (fun _ => rfl)) (at1 8 (fun _ => rfl)) (at1 10 (fun _ => rfl)) (add_run_3 hG (by omega) (by omega)) (a2 vv h' hk)⟩
    · rw [if_neg (by rw [ef]; exact hq), List.append_nil] at htS
      obtain ⟨I', w, a1, a2⟩ := ih (m + 1) (m' + 1) I (by omega) (by omega) (by omega) (by rw [htS]; exact ⟨i0, i3, i4⟩)
      exact ⟨I', w, a1, fun vv h' hk => lt_d_3 hG (by rw [i1]; omega) (at1 9 (fun _ => rfl)) (by rw [er]; exact hq) (a2 vv h' hk)⟩
/-- the class's rows of times -/
def tX_23 (I0 : Nat → Nat → Int32) (l : List (Nat × Nat)) (I : Nat → Nat → Int32) : Prop := (∀ c q, ¬ (38 ≤ c ∧ c ≤ 42) → ¬ (c = 37 ∧ q = 5) → I c q = I0 c q) ∧ (I 37 5).toInt = l.length ∧ ∀ (t a b : Nat), l[t]? = some (a, b) → (I 38 t).toInt = a ∧ (I 39 t).toInt = b ∧ I 40 t = I0 27 b ∧ I 41 t = I0 28 b ∧ I 42 t = I0 30 b
theorem tl_23 {L : Nat} {xs : Nat → Int32} {d : Nat} {J : Nat → Nat → Int64} {R : Nat → Nat → Nat} (hG : aGd R) {I0 : Nat → Nat → Int32} {M : Nat} (hM : (I0 23 15).toInt = M) (hM2 : M ≤ 16) (f : Nat → Int) (hf : f = fun k => (I0 29 k).toInt) {u : Int32} {U : Nat} (hu : u.toInt = U) (hU : U < 96) : ∀ (q : Nat) (m : Int32) (m' : Nat) (I : Nat → Nat → Int32), M - m' = q → m.toInt = m' → m' ≤ M → tX_23 I0 (tOut f M U ++ tIn f U m') I → ∃ (I' : Nat → Nat → Int32) (w : Value), tX_23 I0 (tOut f M (U + 1)) I' ∧ ∀ vv h', xEv L xs (d + 2) 43 2 [.ref 23, .int (u + 1), w] [] (124, I', J, R) vv h' → xEv L xs (d + 2) 43 10 [.ref 23, .int u, .int m] [] (124, I, J, R) vv h' := by
  intro q
  induction q with
  | zero =>
    intro m m' I h1 h2 h3 hI
    have e : m' = M := by omega
    subst e
    have i1 : I 23 15 = I0 23 15 := hI.1 23 15 (by omega) (by omega)
    exact ⟨I, _, hI, fun vv h' hk => lt_c_23 hG (by rw [i1]; omega) hk⟩
  | succ q ih =>
    intro m m' I h1 h2 h3 hI
    obtain ⟨i0, i3, i4⟩ := hI
    have i1 : I 23 15 = I0 23 15 := i0 23 15 (by omega) (by omega)
    have ei := i_add1 (x := m) (by omega)
    have ec := clamp_s (i := m) (by omega)
    have e2 : m.toNatClampNeg = m' := by omega
    have er := rem24 hu
    have ef : f m' = (I 29 m').toInt := by rw [hf, i0 29 m' (by omega) (by omega)]
    have hcS : cIn f ((U % 24 : Nat) : Int) (m' + 1) = cIn f ((U % 24 : Nat) : Int) m' + (if f m' = ((U % 24 : Nat) : Int) then 1 else 0) := rfl
    have htS : tIn f U (m' + 1) = tIn f U m' ++ (if f m' = ((U % 24 : Nat) : Int) then [(U, m')] else []) := rfl
    have hl : (tOut f M U ++ tIn f U m').length = cOut f M U + cIn f ((U % 24 : Nat) : Int) m' := by rw [List.length_append, tOut_l, tIn_l]
    have at1 : ∀ c, (∀ g : FieldType → Nat → Option xR, xarr (124, I, J, R) c g = g .int 16) → xEv L xs (d + 1) 39 0 [.ref c, .int m] [] (124, I, J, R) (some (.int (I c m'))) (124, I, J, R) := by
      intro c ho
      have h4 := at_run (L := L) (xs := xs) (d := d + 1) (h := (124, I, J, R)) ho (by decide) m
      rw [if_pos ⟨by omega, by omega⟩, e2] at h4
      exact h4
    by_cases hq : (I 29 m').toInt = ((U % 24 : Nat) : Int)
    · rw [if_pos (by rw [ef]; exact hq)] at hcS htS
      have hle := cnt_le f hU (m := m' + 1) (M := M) (by omega)
      have ea : (I 37 5 + 1).toInt = (I 37 5).toInt + 1 := i_add1 (by omega)
      have ek := clamp_s (i := I 37 5) (by omega)
      have ek2 : (I 37 5).toNatClampNeg = (tOut f M U ++ tIn f U m').length := by omega
      obtain ⟨I', w, a1, a2⟩ := ih (m + 1) (m' + 1) (uI (uI (uI (uI (uI (uI I 38 (I 37 5).toNatClampNeg u) 39 (I 37 5).toNatClampNeg m) 40 (I 37 5).toNatClampNeg (I 27 m')) 41 (I 37 5).toNatClampNeg (I 28 m')) 42 (I 37 5).toNatClampNeg (I 30 m')) 37 5 (I 37 5 + 1)) (by omega) (by omega) (by omega) (by
        rw [htS, ← List.append_assoc]
        refine ⟨fun c q g1 g2 => ?_, ?_, fun t a b ht => ?_⟩
        · rw [uI_n _ _ g2, uI_c _ _ _ (by omega), uI_c _ _ _ (by omega), uI_c _ _ _ (by omega), uI_c _ _ _ (by omega), uI_c _ _ _ (by omega)]
          exact i0 c q g1 g2
        · rw [uI_s, List.length_append]
          show _ = ((_ + 1 : Nat) : Int)
          omega
        · rw [ek2]
          rcases t_ap ht with ⟨g1, g2⟩ | ⟨g1, g2⟩
          · obtain ⟨b1, b2, b3, b4, b5⟩ := i4 t a b g2
            have hne : t ≠ (tOut f M U ++ tIn f U m').length := by omega
            refine ⟨?_, ?_, ?_, ?_, ?_⟩
            · rw [uI_c _ _ _ (by decide), uI_c _ _ _ (by decide), uI_c _ _ _ (by decide), uI_c _ _ _ (by decide), uI_c _ _ _ (by decide), uI_n _ _ (fun z => hne z.2)]; exact b1
            · rw [uI_c _ _ _ (by decide), uI_c _ _ _ (by decide), uI_c _ _ _ (by decide), uI_c _ _ _ (by decide), uI_n _ _ (fun z => hne z.2), uI_c _ _ _ (by decide)]; exact b2
            · rw [uI_c _ _ _ (by decide), uI_c _ _ _ (by decide), uI_c _ _ _ (by decide), uI_n _ _ (fun z => hne z.2), uI_c _ _ _ (by decide), uI_c _ _ _ (by decide)]; exact b3
            · rw [uI_c _ _ _ (by decide), uI_c _ _ _ (by decide), uI_n _ _ (fun z => hne z.2), uI_c _ _ _ (by decide), uI_c _ _ _ (by decide), uI_c _ _ _ (by decide)]; exact b4
            · rw [uI_c _ _ _ (by decide), uI_n _ _ (fun z => hne z.2), uI_c _ _ _ (by decide), uI_c _ _ _ (by decide), uI_c _ _ _ (by decide), uI_c _ _ _ (by decide)]; exact b5
          · obtain ⟨rfl, rfl⟩ := Prod.mk.inj g2
            subst g1
            refine ⟨?_, ?_, ?_, ?_, ?_⟩
            · rw [uI_c _ _ _ (by decide), uI_c _ _ _ (by decide), uI_c _ _ _ (by decide), uI_c _ _ _ (by decide), uI_c _ _ _ (by decide), uI_s]; exact hu
            · rw [uI_c _ _ _ (by decide), uI_c _ _ _ (by decide), uI_c _ _ _ (by decide), uI_c _ _ _ (by decide), uI_s]; exact h2
            · rw [uI_c _ _ _ (by decide), uI_c _ _ _ (by decide), uI_c _ _ _ (by decide), uI_s]; exact i0 _ _ (by omega) (by omega)
            · rw [uI_c _ _ _ (by decide), uI_c _ _ _ (by decide), uI_s]; exact i0 _ _ (by omega) (by omega)
            · rw [uI_c _ _ _ (by decide), uI_s]; exact i0 _ _ (by omega) (by omega))
      exact ⟨I', w, a1, fun vv h' hk => lt_e_23 hG (by rw [i1]; omega) (at1 29 (fun _ => rfl)) (by rw [hq, er]) (at1 27 (fun _ => rfl)) (at1 28 (fun _ => rfl)) (at1 30 (fun _ => rfl)) (add_run_23 hG (by omega) (by omega)) (a2 vv h' hk)⟩
    · rw [if_neg (by rw [ef]; exact hq), List.append_nil] at htS
      obtain ⟨I', w, a1, a2⟩ := ih (m + 1) (m' + 1) I (by omega) (by omega) (by omega) (by rw [htS]; exact ⟨i0, i3, i4⟩)
      exact ⟨I', w, a1, fun vv h' hk => lt_d_23 hG (by rw [i1]; omega) (at1 29 (fun _ => rfl)) (by rw [er]; exact hq) (a2 vv h' hk)⟩
