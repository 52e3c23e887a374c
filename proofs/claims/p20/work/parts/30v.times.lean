/-- the reference's rows of times -/
def tM (I0 : Nat → Nat → Int32) (l : List (Nat × Nat)) (I : Nat → Nat → Int32) : Prop := (∀ c q, ¬ (101 ≤ c ∧ c ≤ 102) → ¬ (c = 86 ∧ q = 26) → I c q = I0 c q) ∧ (I 86 26).toInt = l.length ∧ ∀ (t a b : Nat), l[t]? = some (a, b) → (I 102 t).toInt = a ∧ (I 101 t).toInt = b
theorem sl_t {L : Nat} {xs : Nat → Int32} {d : Nat} {J : Nat → Nat → Int64} {R : Nat → Nat → Nat} (hG : aGd R) {I0 : Nat → Nat → Int32} {M : Nat} (hM : (I0 88 1).toInt = M) (hM2 : M ≤ 16) (f : Nat → Int) (hf : f = fun k => (I0 94 k).toInt) {u : Int32} {U : Nat} (hu : u.toInt = U) (hU : U < 96) : ∀ (q : Nat) (m : Int32) (m' : Nat) (I : Nat → Nat → Int32), M - m' = q → m.toInt = m' → m' ≤ M → tM I0 (tOut f M U ++ tIn f U m') I → ∃ (I' : Nat → Nat → Int32) (w : Value), tM I0 (tOut f M (U + 1)) I' ∧ ∀ vv h', xEv L xs d 142 109 [.ref 86, .int (u + 1), w] [] (124, I', J, R) vv h' → xEv L xs d 142 117 [.ref 86, .int u, .int m] [] (124, I, J, R) vv h' := by
  intro q
  induction q with
  | zero =>
    intro m m' I h1 h2 h3 hI
    have e : m' = M := by omega
    subst e
    have i1 : I 88 1 = I0 88 1 := hI.1 88 1 (by omega) (by omega)
    exact ⟨I, _, hI, fun vv h' hk => st_c hG (by rw [i1]; omega) hk⟩
  | succ q ih =>
    intro m m' I h1 h2 h3 hI
    obtain ⟨i0, i3, i4⟩ := hI
    have i1 : I 88 1 = I0 88 1 := i0 88 1 (by omega) (by omega)
    have ei := i_add1 (x := m) (by omega)
    have ec := clamp_s (i := m) (by omega)
    have e2 : m.toNatClampNeg = m' := by omega
    have er := rem24 hu
    have ef : f m' = (I 94 m').toInt := by rw [hf, i0 94 m' (by omega) (by omega)]
    have hcS : cIn f ((U % 24 : Nat) : Int) (m' + 1) = cIn f ((U % 24 : Nat) : Int) m' + (if f m' = ((U % 24 : Nat) : Int) then 1 else 0) := rfl
    have htS : tIn f U (m' + 1) = tIn f U m' ++ (if f m' = ((U % 24 : Nat) : Int) then [(U, m')] else []) := rfl
    have hl : (tOut f M U ++ tIn f U m').length = cOut f M U + cIn f ((U % 24 : Nat) : Int) m' := by rw [List.length_append, tOut_l, tIn_l]
    by_cases hq : (I 94 m').toInt = ((U % 24 : Nat) : Int)
    · rw [if_pos (by rw [ef]; exact hq)] at hcS htS
      have hle := cnt_le f hU (m := m' + 1) (M := M) (by omega)
      have ea : (I 86 26 + 1).toInt = (I 86 26).toInt + 1 := i_add1 (by omega)
      have ek := clamp_s (i := I 86 26) (by omega)
      have ek2 : (I 86 26).toNatClampNeg = (tOut f M U ++ tIn f U m').length := by omega
      obtain ⟨I', w, a1, a2⟩ := ih (m + 1) (m' + 1) (uI (uI (uI I 101 (I 86 26).toNatClampNeg m) 102 (I 86 26).toNatClampNeg u) 86 26 (I 86 26 + 1)) (by omega) (by omega) (by omega) (by
        rw [htS, ← List.append_assoc]
        refine ⟨fun c q g1 g2 => ?_, ?_, fun t a b ht => ?_⟩
        · rw [uI_n _ _ g2, uI_c _ _ _ (by omega), uI_c _ _ _ (by omega)]
          exact i0 c q g1 g2
        · rw [uI_s, List.length_append]
          show _ = ((_ + 1 : Nat) : Int)
          omega
        · rw [ek2]
          rcases t_ap ht with ⟨g1, g2⟩ | ⟨g1, g2⟩
          · obtain ⟨b1, b2⟩ := i4 t a b g2
            have hne : t ≠ (tOut f M U ++ tIn f U m').length := by omega
            refine ⟨?_, ?_⟩
            · rw [uI_c _ _ _ (by decide), uI_n _ _ (fun z => hne z.2), uI_c _ _ _ (by decide)]; exact b1
            · rw [uI_c _ _ _ (by decide), uI_c _ _ _ (by decide), uI_n _ _ (fun z => hne z.2)]; exact b2
          · obtain ⟨rfl, rfl⟩ := Prod.mk.inj g2
            subst g1
            refine ⟨?_, ?_⟩
            · rw [uI_c _ _ _ (by decide), uI_s]; exact hu
            · rw [uI_c _ _ _ (by decide), uI_c _ _ _ (by decide), uI_s]; exact h2)
      exact ⟨I', w, a1, fun vv h' hk => st_e hG (by rw [i1]; omega) (by omega) (by omega) (by rw [e2, hq, er]) (by omega) (by omega) (by omega) (by omega) (a2 vv h' hk)⟩
    · rw [if_neg (by rw [ef]; exact hq), List.append_nil] at htS
      obtain ⟨I', w, a1, a2⟩ := ih (m + 1) (m' + 1) I (by omega) (by omega) (by omega) (by rw [htS]; exact ⟨i0, i3, i4⟩)
      exact ⟨I', w, a1, fun vv h' hk => st_d hG (by rw [i1]; omega) (by omega) (by omega) (by rw [e2, er]; exact hq) (a2 vv h' hk)⟩
theorem so_t {L : Nat} {xs : Nat → Int32} {d : Nat} {J : Nat → Nat → Int64} {R : Nat → Nat → Nat} (hG : aGd R) {I0 : Nat → Nat → Int32} {M : Nat} (hM : (I0 88 1).toInt = M) (hM2 : M ≤ 16) (f : Nat → Int) (hf : f = fun k => (I0 94 k).toInt) : ∀ (q : Nat) (u : Int32) (U : Nat) (I : Nat → Nat → Int32) (w : Value), 96 - U = q → u.toInt = U → U ≤ 96 → tM I0 (tOut f M U) I → ∃ (I' : Nat → Nat → Int32) (w' : Value), tM I0 (tOut f M 96) I' ∧ ∀ vv h', xEv L xs d 142 187 [.ref 86, .int 0, w'] [] (124, I', J, R) vv h' → xEv L xs d 142 109 [.ref 86, .int u, w] [] (124, I, J, R) vv h' := by
  intro q
  induction q with
  | zero =>
    intro u U I w h1 h2 h3 hI
    have e : U = 96 := by omega
    subst e
    exact ⟨I, w, hI, fun vv h' hk => st_a hG (by omega) (st_f hG hk)⟩
  | succ q ih =>
    intro u U I w h1 h2 h3 hI
    have ei := i_add1 (x := u) (by omega)
    obtain ⟨I1, w1, a1, a2⟩ := sl_t (L := L) (xs := xs) (d := d) (J := J) (R := R) hG hM hM2 f hf h2 (by omega) _ 0 0 I rfl rfl (Nat.zero_le _) (by show tM I0 (tOut f M U ++ []) I; rw [List.append_nil]; exact hI)
    obtain ⟨I2, w2, b1, b2⟩ := ih (u + 1) (U + 1) I1 w1 (by omega) (by omega) (by omega) a1
    exact ⟨I2, w2, b1, fun vv h' hk => st_b hG (by omega) (a2 vv h' (b2 vv h' hk))⟩
