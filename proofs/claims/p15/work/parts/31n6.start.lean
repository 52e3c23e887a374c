set_option maxRecDepth 20000 in
theorem yfi_s_58 {L : Nat} {xs : Nat → Int32} {d : Nat} {I : Nat → Nat → Int32} {J : Nat → Nat → Int64} {R : Nat → Nat → Nat} {x : Int32} (hG : aGd R)  {v : Option Value} {h' : xH} (hk : xEv L xs d 13 5 [.ref 58, .int x, .int 0, .int 2401] [] (124, I, J, R) v h') : xEv L xs d 13 0 [.ref 58, .int x, xmk, xmk] [] (124, I, J, R) v h' := by
  refine ev_go 5 (pc1 := 5) (lv1 := [.ref 58, .int x, .int 0, .int 2401]) (st1 := []) (h1 := (124, I, J, R)) rfl ?_
  exact hk
set_option maxRecDepth 20000 in
theorem yfi_e_58 {L : Nat} {xs : Nat → Int32} {d : Nat} {I : Nat → Nat → Int32} {J : Nat → Nat → Int64} {R : Nat → Nat → Nat} {x i : Int32} (hG : aGd R) (b1 : i.toInt ≥ 2401) : xEv L xs d 13 5 [.ref 58, .int x, .int i, .int 2401] [] (124, I, J, R) none (124, I, J, R) := by
  refine ev_go 2 (pc1 := 7) (lv1 := [.ref 58, .int x, .int i, .int 2401]) (st1 := [.int 2401, .int i]) (h1 := (124, I, J, R)) rfl ?_
  refine ev_br (b1 := true) rfl rfl (xcd_ge (x := i) (y := 2401) (by rw [show ((2401 : Int32)).toInt = 2401 from by decide]; first | exact b1 | omega)) ?_
  exact ev_ret rfl rfl
set_option maxRecDepth 20000 in
theorem yfi_y_58 {L : Nat} {xs : Nat → Int32} {d : Nat} {I : Nat → Nat → Int32} {J : Nat → Nat → Int64} {R : Nat → Nat → Nat} {x i : Int32} (hG : aGd R) (b1 : i.toInt < 2401) (n1 : 0 ≤ i.toInt) (m1 : i.toInt < 2401) {v : Option Value} {h' : xH} (hk : xEv L xs d 13 5 [.ref 58, .int x, .int (i + 1), .int 2401] [] (124, (uI I 58 i.toNatClampNeg x), J, R) v h') : xEv L xs d 13 5 [.ref 58, .int x, .int i, .int 2401] [] (124, I, J, R) v h' := by
  refine ev_go 2 (pc1 := 7) (lv1 := [.ref 58, .int x, .int i, .int 2401]) (st1 := [.int 2401, .int i]) (h1 := (124, I, J, R)) rfl ?_
  refine ev_br (b1 := false) rfl rfl (xcd_nge (x := i) (y := 2401) (by rw [show ((2401 : Int32)).toInt = 2401 from by decide]; first | exact b1 | omega)) ?_
  refine ev_go 3 (pc1 := 13) (lv1 := [.ref 58, .int x, .int i, .int 2401]) (st1 := [.int x, .int i, .ref 58]) (h1 := (124, I, J, R)) rfl ?_
  refine ev_ist (n := 2401) rfl rfl (fun _ => rfl) n1 m1 ?_
  refine ev_go 2 (pc1 := 5) (lv1 := [.ref 58, .int x, .int (i + 1), .int 2401]) (st1 := []) (h1 := (124, (uI I 58 i.toNatClampNeg x), J, R)) rfl ?_
  exact hk
theorem yfi_58 {L : Nat} {xs : Nat → Int32} {d : Nat} {I : Nat → Nat → Int32} {J : Nat → Nat → Int64} {R : Nat → Nat → Nat} (hG : aGd R) (x : Int32) : ∃ I' : Nat → Nat → Int32, xEv L xs d 13 0 [.ref 58, .int x, xmk, xmk] [] (124, I, J, R) none (124, I', J, R) ∧ (∀ k, k < 2401 → I' 58 k = x) ∧ ∀ c k, c ≠ 58 → I' c k = I c k := by
  have lp : ∀ (f k : Nat) (i : Int32) (Im : Nat → Nat → Int32), k + f = 2401 → i.toInt = k → (∀ m, m < k → Im 58 m = x) → (∀ c k, c ≠ 58 → Im c k = I c k) → ∃ I' : Nat → Nat → Int32, xEv L xs d 13 5 [.ref 58, .int x, .int i, .int 2401] [] (124, Im, J, R) none (124, I', J, R) ∧ (∀ k, k < 2401 → I' 58 k = x) ∧ ∀ c k, c ≠ 58 → I' c k = I c k := by
    intro f
    induction f with
    | zero =>
      intro k i Im hk ei h1 h2
      have e : k = 2401 := by omega
      rw [e] at h1
      exact ⟨Im, yfi_e_58 hG (by omega), h1, h2⟩
    | succ f ih =>
      intro k i Im hk ei h1 h2
      have ei' : (i + 1).toInt = (k + 1 : Nat) := by rw [i_add1 (by omega)]; omega
      have ec := clamp_s (i := i) (by omega)
      have ek : i.toNatClampNeg = k := by omega
      obtain ⟨I', z1, z2⟩ := ih (k + 1) (i + 1) (uI Im 58 k x) (by omega) ei' (fun m hm => by
        by_cases g : m = k
        · rw [g, uI_s]
        · rw [uI_n _ _ (fun e => g e.2)]
          exact h1 m (by omega)) (fun c k hc => by rw [uI_c _ _ _ hc]; exact h2 c k hc)
      exact ⟨I', yfi_y_58 hG (by omega) (by omega) (by omega) (by rw [ek]; exact z1), z2⟩
  obtain ⟨I', z1, z2⟩ := lp 2401 0 0 I (by omega) (by decide) (fun m hm => absurd hm (by omega)) (fun _ _ _ => rfl)
  exact ⟨I', yfi_s_58 hG z1, z2⟩
set_option maxRecDepth 20000 in
theorem yfi_s_61 {L : Nat} {xs : Nat → Int32} {d : Nat} {I : Nat → Nat → Int32} {J : Nat → Nat → Int64} {R : Nat → Nat → Nat} {x : Int32} (hG : aGd R)  {v : Option Value} {h' : xH} (hk : xEv L xs d 13 5 [.ref 61, .int x, .int 0, .int 112] [] (124, I, J, R) v h') : xEv L xs d 13 0 [.ref 61, .int x, xmk, xmk] [] (124, I, J, R) v h' := by
  refine ev_go 5 (pc1 := 5) (lv1 := [.ref 61, .int x, .int 0, .int 112]) (st1 := []) (h1 := (124, I, J, R)) rfl ?_
  exact hk
set_option maxRecDepth 20000 in
theorem yfi_e_61 {L : Nat} {xs : Nat → Int32} {d : Nat} {I : Nat → Nat → Int32} {J : Nat → Nat → Int64} {R : Nat → Nat → Nat} {x i : Int32} (hG : aGd R) (b1 : i.toInt ≥ 112) : xEv L xs d 13 5 [.ref 61, .int x, .int i, .int 112] [] (124, I, J, R) none (124, I, J, R) := by
  refine ev_go 2 (pc1 := 7) (lv1 := [.ref 61, .int x, .int i, .int 112]) (st1 := [.int 112, .int i]) (h1 := (124, I, J, R)) rfl ?_
  refine ev_br (b1 := true) rfl rfl (xcd_ge (x := i) (y := 112) (by rw [show ((112 : Int32)).toInt = 112 from by decide]; first | exact b1 | omega)) ?_
  exact ev_ret rfl rfl
set_option maxRecDepth 20000 in
theorem yfi_y_61 {L : Nat} {xs : Nat → Int32} {d : Nat} {I : Nat → Nat → Int32} {J : Nat → Nat → Int64} {R : Nat → Nat → Nat} {x i : Int32} (hG : aGd R) (b1 : i.toInt < 112) (n1 : 0 ≤ i.toInt) (m1 : i.toInt < 112) {v : Option Value} {h' : xH} (hk : xEv L xs d 13 5 [.ref 61, .int x, .int (i + 1), .int 112] [] (124, (uI I 61 i.toNatClampNeg x), J, R) v h') : xEv L xs d 13 5 [.ref 61, .int x, .int i, .int 112] [] (124, I, J, R) v h' := by
  refine ev_go 2 (pc1 := 7) (lv1 := [.ref 61, .int x, .int i, .int 112]) (st1 := [.int 112, .int i]) (h1 := (124, I, J, R)) rfl ?_
  refine ev_br (b1 := false) rfl rfl (xcd_nge (x := i) (y := 112) (by rw [show ((112 : Int32)).toInt = 112 from by decide]; first | exact b1 | omega)) ?_
  refine ev_go 3 (pc1 := 13) (lv1 := [.ref 61, .int x, .int i, .int 112]) (st1 := [.int x, .int i, .ref 61]) (h1 := (124, I, J, R)) rfl ?_
  refine ev_ist (n := 112) rfl rfl (fun _ => rfl) n1 m1 ?_
  refine ev_go 2 (pc1 := 5) (lv1 := [.ref 61, .int x, .int (i + 1), .int 112]) (st1 := []) (h1 := (124, (uI I 61 i.toNatClampNeg x), J, R)) rfl ?_
  exact hk
theorem yfi_61 {L : Nat} {xs : Nat → Int32} {d : Nat} {I : Nat → Nat → Int32} {J : Nat → Nat → Int64} {R : Nat → Nat → Nat} (hG : aGd R) (x : Int32) : ∃ I' : Nat → Nat → Int32, xEv L xs d 13 0 [.ref 61, .int x, xmk, xmk] [] (124, I, J, R) none (124, I', J, R) ∧ (∀ k, k < 112 → I' 61 k = x) ∧ ∀ c k, c ≠ 61 → I' c k = I c k := by
  have lp : ∀ (f k : Nat) (i : Int32) (Im : Nat → Nat → Int32), k + f = 112 → i.toInt = k → (∀ m, m < k → Im 61 m = x) → (∀ c k, c ≠ 61 → Im c k = I c k) → ∃ I' : Nat → Nat → Int32, xEv L xs d 13 5 [.ref 61, .int x, .int i, .int 112] [] (124, Im, J, R) none (124, I', J, R) ∧ (∀ k, k < 112 → I' 61 k = x) ∧ ∀ c k, c ≠ 61 → I' c k = I c k := by
    intro f
    induction f with
    | zero =>
      intro k i Im hk ei h1 h2
      have e : k = 112 := by omega
      rw [e] at h1
      exact ⟨Im, yfi_e_61 hG (by omega), h1, h2⟩
    | succ f ih =>
      intro k i Im hk ei h1 h2
      have ei' : (i + 1).toInt = (k + 1 : Nat) := by rw [i_add1 (by omega)]; omega
      have ec := clamp_s (i := i) (by omega)
      have ek : i.toNatClampNeg = k := by omega
      obtain ⟨I', z1, z2⟩ := ih (k + 1) (i + 1) (uI Im 61 k x) (by omega) ei' (fun m hm => by
        by_cases g : m = k
        · rw [g, uI_s]
        · rw [uI_n _ _ (fun e => g e.2)]
          exact h1 m (by omega)) (fun c k hc => by rw [uI_c _ _ _ hc]; exact h2 c k hc)
      exact ⟨I', yfi_y_61 hG (by omega) (by omega) (by omega) (by rw [ek]; exact z1), z2⟩
  obtain ⟨I', z1, z2⟩ := lp 112 0 0 I (by omega) (by decide) (fun m hm => absurd hm (by omega)) (fun _ _ _ => rfl)
  exact ⟨I', yfi_s_61 hG z1, z2⟩
set_option maxRecDepth 20000 in
theorem yfi_s_62 {L : Nat} {xs : Nat → Int32} {d : Nat} {I : Nat → Nat → Int32} {J : Nat → Nat → Int64} {R : Nat → Nat → Nat} {x : Int32} (hG : aGd R)  {v : Option Value} {h' : xH} (hk : xEv L xs d 13 5 [.ref 62, .int x, .int 0, .int 7] [] (124, I, J, R) v h') : xEv L xs d 13 0 [.ref 62, .int x, xmk, xmk] [] (124, I, J, R) v h' := by
  refine ev_go 5 (pc1 := 5) (lv1 := [.ref 62, .int x, .int 0, .int 7]) (st1 := []) (h1 := (124, I, J, R)) rfl ?_
  exact hk
set_option maxRecDepth 20000 in
theorem yfi_e_62 {L : Nat} {xs : Nat → Int32} {d : Nat} {I : Nat → Nat → Int32} {J : Nat → Nat → Int64} {R : Nat → Nat → Nat} {x i : Int32} (hG : aGd R) (b1 : i.toInt ≥ 7) : xEv L xs d 13 5 [.ref 62, .int x, .int i, .int 7] [] (124, I, J, R) none (124, I, J, R) := by
  refine ev_go 2 (pc1 := 7) (lv1 := [.ref 62, .int x, .int i, .int 7]) (st1 := [.int 7, .int i]) (h1 := (124, I, J, R)) rfl ?_
  refine ev_br (b1 := true) rfl rfl (xcd_ge (x := i) (y := 7) (by rw [show ((7 : Int32)).toInt = 7 from by decide]; first | exact b1 | omega)) ?_
  exact ev_ret rfl rfl
set_option maxRecDepth 20000 in
theorem yfi_y_62 {L : Nat} {xs : Nat → Int32} {d : Nat} {I : Nat → Nat → Int32} {J : Nat → Nat → Int64} {R : Nat → Nat → Nat} {x i : Int32} (hG : aGd R) (b1 : i.toInt < 7) (n1 : 0 ≤ i.toInt) (m1 : i.toInt < 7) {v : Option Value} {h' : xH} (hk : xEv L xs d 13 5 [.ref 62, .int x, .int (i + 1), .int 7] [] (124, (uI I 62 i.toNatClampNeg x), J, R) v h') : xEv L xs d 13 5 [.ref 62, .int x, .int i, .int 7] [] (124, I, J, R) v h' := by
  refine ev_go 2 (pc1 := 7) (lv1 := [.ref 62, .int x, .int i, .int 7]) (st1 := [.int 7, .int i]) (h1 := (124, I, J, R)) rfl ?_
  refine ev_br (b1 := false) rfl rfl (xcd_nge (x := i) (y := 7) (by rw [show ((7 : Int32)).toInt = 7 from by decide]; first | exact b1 | omega)) ?_
  refine ev_go 3 (pc1 := 13) (lv1 := [.ref 62, .int x, .int i, .int 7]) (st1 := [.int x, .int i, .ref 62]) (h1 := (124, I, J, R)) rfl ?_
  refine ev_ist (n := 7) rfl rfl (fun _ => rfl) n1 m1 ?_
  refine ev_go 2 (pc1 := 5) (lv1 := [.ref 62, .int x, .int (i + 1), .int 7]) (st1 := []) (h1 := (124, (uI I 62 i.toNatClampNeg x), J, R)) rfl ?_
  exact hk
theorem yfi_62 {L : Nat} {xs : Nat → Int32} {d : Nat} {I : Nat → Nat → Int32} {J : Nat → Nat → Int64} {R : Nat → Nat → Nat} (hG : aGd R) (x : Int32) : ∃ I' : Nat → Nat → Int32, xEv L xs d 13 0 [.ref 62, .int x, xmk, xmk] [] (124, I, J, R) none (124, I', J, R) ∧ (∀ k, k < 7 → I' 62 k = x) ∧ ∀ c k, c ≠ 62 → I' c k = I c k := by
  have lp : ∀ (f k : Nat) (i : Int32) (Im : Nat → Nat → Int32), k + f = 7 → i.toInt = k → (∀ m, m < k → Im 62 m = x) → (∀ c k, c ≠ 62 → Im c k = I c k) → ∃ I' : Nat → Nat → Int32, xEv L xs d 13 5 [.ref 62, .int x, .int i, .int 7] [] (124, Im, J, R) none (124, I', J, R) ∧ (∀ k, k < 7 → I' 62 k = x) ∧ ∀ c k, c ≠ 62 → I' c k = I c k := by
    intro f
    induction f with
    | zero =>
      intro k i Im hk ei h1 h2
      have e : k = 7 := by omega
      rw [e] at h1
      exact ⟨Im, yfi_e_62 hG (by omega), h1, h2⟩
    | succ f ih =>
      intro k i Im hk ei h1 h2
      have ei' : (i + 1).toInt = (k + 1 : Nat) := by rw [i_add1 (by omega)]; omega
      have ec := clamp_s (i := i) (by omega)
      have ek : i.toNatClampNeg = k := by omega
      obtain ⟨I', z1, z2⟩ := ih (k + 1) (i + 1) (uI Im 62 k x) (by omega) ei' (fun m hm => by
        by_cases g : m = k
        · rw [g, uI_s]
        · rw [uI_n _ _ (fun e => g e.2)]
          exact h1 m (by omega)) (fun c k hc => by rw [uI_c _ _ _ hc]; exact h2 c k hc)
      exact ⟨I', yfi_y_62 hG (by omega) (by omega) (by omega) (by rw [ek]; exact z1), z2⟩
  obtain ⟨I', z1, z2⟩ := lp 7 0 0 I (by omega) (by decide) (fun m hm => absurd hm (by omega)) (fun _ _ _ => rfl)
  exact ⟨I', yfi_s_62 hG z1, z2⟩
theorem ycn_z {f : Nat → Int} : ∀ n, (∀ k, k < n → f k < 0) → ycn f n = 0
  | 0, _ => rfl
  | n + 1, h => by
    have := h n (by omega)
    rw [ycn_s, ycn_z n (fun k hk => h k (by omega)), if_neg (by omega)]
theorem yCt_0 {I : Nat → Nat → Int32} (h : ∀ y, y < 2401 → (I 58 y).toInt < 0) : yCt I 0 := (ycn_z (f := fun y => (I 58 y).toInt) 2401 h).symm
def zu (F : Nat → Nat) (k m : Nat) : Nat := if m < k then F m else 0
theorem zu_t {F : Nat → Nat} {k m : Nat} (h : m < k) : zu F k m = F m := if_pos h
theorem zu_f {F : Nat → Nat} {k m : Nat} (h : ¬ m < k) : zu F k m = 0 := if_neg h
theorem zu_s (F : Nat → Nat) {k : Nat} (hk : k < 4) : zm (zu F (k + 1)) = zm (zu F k) + F k * 7 ^ k := by
  unfold zm
  have e : k = 0 ∨ k = 1 ∨ k = 2 ∨ k = 3 := by omega
  rcases e with rfl | rfl | rfl | rfl
  · rw [zu_t (show 0 < 0 + 1 by omega), zu_f (show ¬ 1 < 0 + 1 by omega), zu_f (show ¬ 2 < 0 + 1 by omega), zu_f (show ¬ 3 < 0 + 1 by omega), zu_f (show ¬ 0 < 0 by omega), zu_f (show ¬ 1 < 0 by omega), zu_f (show ¬ 2 < 0 by omega), zu_f (show ¬ 3 < 0 by omega)]
    show _ = _ + F 0 * 1
    omega
  · rw [zu_t (show 0 < 1 + 1 by omega), zu_t (show 1 < 1 + 1 by omega), zu_f (show ¬ 2 < 1 + 1 by omega), zu_f (show ¬ 3 < 1 + 1 by omega), zu_t (show 0 < 1 by omega), zu_f (show ¬ 1 < 1 by omega), zu_f (show ¬ 2 < 1 by omega), zu_f (show ¬ 3 < 1 by omega)]
    show _ = _ + F 1 * 7
    omega
  · rw [zu_t (show 0 < 2 + 1 by omega), zu_t (show 1 < 2 + 1 by omega), zu_t (show 2 < 2 + 1 by omega), zu_f (show ¬ 3 < 2 + 1 by omega), zu_t (show 0 < 2 by omega), zu_t (show 1 < 2 by omega), zu_f (show ¬ 2 < 2 by omega), zu_f (show ¬ 3 < 2 by omega)]
    show _ = _ + F 2 * 49
    omega
  · rw [zu_t (show 0 < 3 + 1 by omega), zu_t (show 1 < 3 + 1 by omega), zu_t (show 2 < 3 + 1 by omega), zu_t (show 3 < 3 + 1 by omega), zu_t (show 0 < 3 by omega), zu_t (show 1 < 3 by omega), zu_t (show 2 < 3 by omega), zu_f (show ¬ 3 < 3 by omega)]
    show _ = _ + F 3 * 343
    omega
theorem zu_b {w : zW} (hK : zK w) {k : Nat} (hk : k ≤ zN w) : ∀ n, n < 4 → zu (zF w) k n < 7 := by
  intro n _
  unfold zu
  split
  · next h =>
    have := (hK.2.2.2.2 n (by omega)).1
    have := hK.2.1
    omega
  · omega
theorem yo2_T : ∀ k, k < 4 → (1 <<< (Int32.ofNat k &&& 31) : Int32) = Int32.ofNat (2 ^ k) ∧ 2 ^ k < 16 ∧ yO (2 ^ k) = 7 ^ k := by decide +kernel
/-- least times by which sets are with people -/
def yW (w : zW) (t : Nat) (I : Nat → Nat → Int32) : Prop := (∀ s y p, s ≤ t → zr w s y → p < 7 → (I 61 (yS w y p * 7 + p)).toInt ≤ (s : Int) - 1) ∧ (∀ S p, S < 16 → p < 7 → (I 61 (S * 7 + p)).toInt = 64 ∨ ∃ s y, s ≤ t ∧ zr w s y ∧ yS w y p = S ∧ (I 61 (S * 7 + p)).toInt = (s : Int) - 1)
theorem yW_e {w : zW} {t : Nat} {I I' : Nat → Nat → Int32} (h : yW w t I) (e : ∀ j, I' 61 j = I 61 j) : yW w t I' := by
  unfold yW
  rw [show I' 61 = I 61 from funext e]
  exact h
theorem tb_one {h k : Int32} {n : Nat} (hk : k.toInt = n) (hn : n < 31) : (h &&& (1 <<< (k &&& 31))).toInt ≠ 0 ↔ tb h n = true := by
  constructor
  · intro g
    have g' : h &&& (1 <<< (k &&& 31)) ≠ 0 := fun e => g (by rw [e]; decide)
    obtain ⟨i, hi, hb⟩ := tb_nz.mp g'
    rw [tb_and, tb_shl hk hn, Bool.and_eq_true] at hb
    rw [← of_decide_eq_true hb.2]
    exact hb.1
  · intro g e
    have z : h &&& (1 <<< (k &&& 31)) = 0 := Int32.toInt_inj.mp e
    have zb : tb (h &&& (1 <<< (k &&& 31))) n = true := by rw [tb_and, tb_shl hk hn, g, decide_eq_true rfl]; rfl
    rw [z, tb_0] at zb
    cases zb
theorem yst_run_3 {L : Nat} {xs : Nat → Int32} {d : Nat} {I : Nat → Nat → Int32} {J : Nat → Nat → Int64} {R : Nat → Nat → Nat} (hG : aGd R) {w : zW} {nm : Nat} (hK : zK w) (h0 : zV w (zE w)) (hC : zCl_3 w nm I) :
    ∃ I' : Nat → Nat → Int32, xEv L xs (d + 4) 85 0 [.ref 57, .ref 3, xmk, xmk, xmk, xmk, xmk] [] (124, I, J, R) none (124, I', J, R) ∧ yT w I' ∧ yBa w I' ∧ (∀ y, y < 2401 → y ≠ zE w → (I' 58 y).toInt = -1) ∧ (I' 58 (zE w)).toInt = 0 ∧ yW w 0 I' ∧ (∀ c k, c < 57 → I' c k = I c k) ∧ I' 57 8 = I 57 8 := by
  have k4 := hK.1
  have p7 := hK.2.1
  have e4 : (4 : Int32).toInt = 4 := by decide
  have em : (-1 : Int32).toInt = -1 := by decide
  have e0 : (0 : Int32).toInt = 0 := by decide
  have at1 : ∀ (c n : Nat) (i : Int32) (iN : Nat) (Im : Nat → Nat → Int32), (∀ g : FieldType → Nat → Option xR, xarr (124, Im, J, R) c g = g .int n) → n < 2147483648 → i.toInt = iN → iN < n → ∀ d, xEv L xs d 39 0 [.ref c, .int i] [] (124, Im, J, R) (some (.int (Im c iN))) (124, Im, J, R) := by
    intro c n i iN Im ho hn ei hi d
    have ec := clamp_s (i := i) (by omega)
    have h4 := at_run (L := L) (xs := xs) (d := d) (h := (124, Im, J, R)) (c := c) (n := n) ho hn i
    rw [if_pos ⟨by omega, by omega⟩, show i.toNatClampNeg = iN by omega] at h4
    exact h4
  have pt1 : ∀ (c n : Nat) (i x : Int32) (iN : Nat) (Im : Nat → Nat → Int32), (∀ g : FieldType → Nat → Option xR, xarr (124, Im, J, R) c g = g .int n) → n < 2147483648 → i.toInt = iN → iN < n → ∀ d, xEv L xs d 33 0 [.ref c, .int i, .int x] [] (124, Im, J, R) none (124, uI Im c iN x, J, R) := by
    intro c n i x iN Im ho hn ei hi d
    have ec := clamp_s (i := i) (by omega)
    have h4 := put_in (L := L) (xs := xs) (d := d) (I := Im) (J := J) (R := R) (c := c) (n := n) ho hn (i := i) x (by omega) (by omega)
    rw [show i.toNatClampNeg = iN by omega] at h4
    exact h4
  obtain ⟨Ia, f1, fa1, fa2⟩ := yfi_58 (L := L) (xs := xs) (d := d + 3) (I := I) (J := J) (R := R) hG (-1)
  obtain ⟨Ib, f2, fb1, fb2⟩ := yfi_61 (L := L) (xs := xs) (d := d + 3) (I := Ia) (J := J) (R := R) hG 64
  obtain ⟨Ic, f3, fc1, fc2⟩ := yfi_62 (L := L) (xs := xs) (d := d + 3) (I := Ib) (J := J) (R := R) hG 0
  have fr0 : ∀ c k, c ≠ 58 → c ≠ 61 → c ≠ 62 → Ic c k = I c k := fun c k a b e => by rw [fc2 c k e, fb2 c k b, fa2 c k a]
  obtain ⟨⟨c1, c2, -, -⟩, -, -, c6⟩ := hC
  -- the barred of one more
  have lpP : ∀ (f p nN : Nat) (n x h fq pi : Int32) (Im : Nat → Nat → Int32), p + f = zP w → pi.toInt = p → n.toInt = nN → nN < zN w → (∀ c k, c ≠ 62 → Im c k = Ic c k) → (∀ q m, q < zP w → m < 32 → tb (Im 62 q) m = if m < nN ∨ (m = nN ∧ q < p) then zR w m q else false) → ∃ I' : Nat → Nat → Int32, (∀ (vv : Option Value) (h' : xH), xEv L xs (d + 4) 85 32 [.ref 57, .ref 3, .int x, .int h, .int (n + 1), .int fq, .int (Int32.ofNat (zP w))] [] (124, I', J, R) vv h' → xEv L xs (d + 4) 85 83 [.ref 57, .ref 3, .int x, .int h, .int n, .int fq, .int pi] [] (124, Im, J, R) vv h') ∧ (∀ c k, c ≠ 62 → I' c k = Ic c k) ∧ (∀ q m, q < zP w → m < 32 → tb (I' 62 q) m = if m < nN + 1 then zR w m q else false) := by
    intro f
    induction f with
    | zero =>
      intro p nN n x h fq pi Im hp ep en nl g1 g2
      have e : p = zP w := by omega
      have epi : pi = Int32.ofNat (zP w) := Int32.toInt_inj.mp (by rw [ep, e, Int32.toInt_ofNat_of_lt (by omega)])
      refine ⟨Im, fun vv h' hk => yst_f_3 hG (by rw [g1 3 14 (by omega), fr0 _ _ (by omega) (by omega) (by omega)]; omega) (by rw [epi]; exact hk), g1, fun q m hq hm => ?_⟩
      rw [g2 q m hq hm]
      by_cases g : m < nN + 1
      · rw [if_pos (by omega), if_pos g]
      · rw [if_neg (by omega), if_neg g]
    | succ f ih =>
      intro p nN n x h fq pi Im hp ep en nl g1 g2
      have ep' : (pi + 1).toInt = (p + 1 : Nat) := by rw [i_add1 (by omega)]; omega
      have pp : p < zP w := by omega
      have r1 := at1 62 7 pi p Im (fun _ => rfl) (by decide) ep (by omega) (d + 3)
      have r2 := at1 15 4 n nN Im (fun _ => rfl) (by decide) en (by omega) (d + 3)
      obtain ⟨b, hb⟩ : ∃ b, Im 15 nN = b := ⟨_, rfl⟩
      have tbb : tb b p = zR w nN p := by
        rw [← hb, g1 _ _ (by omega), fr0 _ _ (by omega) (by omega) (by omega)]
        exact (c6 nN nl).2.2.2.2 p (by omega)
      rw [hb] at r2
      obtain ⟨z, hz⟩ : ∃ z, Im 62 p ||| (((b >>> (pi &&& 31)) &&& 1) <<< (n &&& 31)) = z := ⟨_, rfl⟩
      have r3 := pt1 62 7 pi z p Im (fun _ => rfl) (by decide) ep (by omega) (d + 3)
      have tz : ∀ m, m < 32 → tb z m = (tb (Im 62 p) m || (decide (m = nN) && zR w nN p)) := fun m hm => by
        rw [← hz, tb_or, tb_shr ep (by omega), tbb]
        cases zR w nN p with
        | true => rw [if_pos rfl, tb_shl en (by omega), Bool.and_true]
        | false => rw [if_neg (by decide), tb_sal en (by omega) hm, tb_0, Bool.and_false, Bool.and_false]
      obtain ⟨I', x1, x2⟩ := ih (p + 1) nN n x h fq (pi + 1) (uI Im 62 p z) (by omega) ep' en nl (fun c k hc => by rw [uI_c _ _ _ hc]; exact g1 c k hc) (fun q m hq hm => by
        by_cases gq : q = p
        · rw [gq, uI_s, tz m hm, g2 p m pp hm]
          by_cases gm : m = nN
          · rw [gm, if_neg (by omega), if_pos (by omega), decide_eq_true rfl]
            rfl
          · rw [decide_eq_false gm, Bool.false_and, Bool.or_false]
            by_cases gl : m < nN
            · rw [if_pos (by omega), if_pos (by omega)]
            · rw [if_neg (by omega), if_neg (by omega)]
        · rw [uI_n _ _ (fun e => gq e.2), g2 q m hq hm]
          by_cases gl : m < nN ∨ (m = nN ∧ q < p)
          · rw [if_pos gl, if_pos (by omega)]
          · rw [if_neg gl, if_neg (by omega)])
      exact ⟨I', fun vv h' hk => yst_z_3 hG (by rw [g1 3 14 (by omega), fr0 _ _ (by omega) (by omega) (by omega)]; omega) r1 r2 (by rw [hz]; exact r3) (x1 vv h' hk), x2⟩
  -- all pieces
  have lpN : ∀ (f k : Nat) (n x h : Int32) (w5 w6 : Value) (Im : Nat → Nat → Int32), k + f = zN w → n.toInt = k → x.toInt = zm (zu (zF w) k) → (∀ p m, p < 8 → m < 4 → tb h (4 * p + m) = (decide (m < k) && decide (zF w m = p))) → (∀ c k, c ≠ 62 → Im c k = Ic c k) → (∀ q m, q < zP w → m < 32 → tb (Im 62 q) m = if m < k then zR w m q else false) → ∃ (n' x' h' : Int32) (w5' w6' : Value) (I' : Nat → Nat → Int32), (∀ (vv : Option Value) (hh : xH), xEv L xs (d + 4) 85 32 [.ref 57, .ref 3, .int x', .int h', .int n', w5', w6'] [] (124, I', J, R) vv hh → xEv L xs (d + 4) 85 32 [.ref 57, .ref 3, .int x, .int h, .int n, w5, w6] [] (124, Im, J, R) vv hh) ∧ n'.toInt = zN w ∧ x'.toInt = zE w ∧ yHd w h' (zE w) ∧ (∀ c k, c ≠ 62 → I' c k = Ic c k) ∧ yBa w I' := by
    intro f
    induction f with
    | zero =>
      intro k n x h w5 w6 Im hk en ex hh g1 g2
      have e : k = zN w := by omega
      subst e
      refine ⟨n, x, h, w5, w6, Im, fun _ _ hk => hk, en, ex, fun p m hp hm => ?_, g1, fun p m hp hm => ?_⟩
      · rw [hh p m hp hm, zE_d hK hm]
        by_cases g : m < zN w
        · rw [if_pos g]
        · rw [decide_eq_false g, Bool.false_and, Bool.false_and]
      · rw [g2 p m hp (by omega), if_pos hm]
    | succ f ih =>
      intro k n x h w5 w6 Im hk en ex hh g1 g2
      have kn : k < zN w := by omega
      have en' : (n + 1).toInt = (k + 1 : Nat) := by rw [i_add1 (by omega)]; omega
      have r1 := at1 11 4 n k Im (fun _ => rfl) (by decide) en (by omega) (d + 3)
      obtain ⟨fq, hfq⟩ : ∃ fq, Im 11 k = fq := ⟨_, rfl⟩
      rw [hfq] at r1
      have efq : fq.toInt = zF w k := by
        rw [← hfq, g1 _ _ (by omega), fr0 _ _ (by omega) (by omega) (by omega)]
        exact (c6 k kn).1
      have fl := (hK.2.2.2.2 k kn).1
      obtain ⟨t1, t2, t3⟩ := yo2_T k (by omega)
      have en1 : n = Int32.ofNat k := k_small en (by omega)
      obtain ⟨o, r2, eo⟩ := yon_run (L := L) (xs := xs) (d := d + 3) (I := Im) (J := J) (R := R) hG t2
      rw [← t1, ← en1] at r2
      rw [t3] at eo
      have b7 := z7_b k (by omega)
      have bx := zm_lt (zu_b hK (show k ≤ zN w by omega))
      have pr : (zF w k) * 7 ^ k ≤ 6 * 343 := Nat.mul_le_mul (by omega) b7
      have epc : fq.toInt * o.toInt = ((zF w k * 7 ^ k : Nat) : Int) := by
        rw [efq, eo]
        rfl
      have zus := zu_s (zF w) (show k < 4 by omega)
      obtain ⟨pq, hpq⟩ : ∃ pq, zF w k * 7 ^ k = pq := ⟨_, rfl⟩
      rw [hpq] at epc pr zus
      have epr : (fq * o).toInt = pq := by
        rw [i_mul (by rw [epc]; omega) (by rw [epc]; omega)]
        exact epc
      have ex' : (x + fq * o).toInt = zm (zu (zF w) (k + 1)) := by
        rw [zus, i_add (by omega) (by omega), ex, epr]
        rfl
      have e4f : ((4 * fq) + n).toInt = ((4 * zF w k + k : Nat) : Int) := by
        have m : (4 * fq).toInt = 4 * zF w k := by rw [i_mul (by rw [e4]; omega) (by rw [e4]; omega), e4, efq]
        rw [i_add (by omega) (by omega), m, en]
        omega
      have hh' : ∀ p m, p < 8 → m < 4 → tb (h ||| (1 <<< (((4 * fq) + n) &&& 31))) (4 * p + m) = (decide (m < k + 1) && decide (zF w m = p)) := fun p m hp hm => by
        rw [tb_or, hh p m hp hm, tb_shl e4f (by omega)]
        by_cases gm : m = k
        · rw [gm, decide_eq_false (Nat.lt_irrefl k), decide_eq_true (show k < k + 1 by omega), Bool.false_and, Bool.false_or, Bool.true_and]
          by_cases gp : zF w k = p
          · rw [decide_eq_true gp, decide_eq_true (by omega)]
          · rw [decide_eq_false gp, decide_eq_false (by omega)]
        · rw [decide_eq_false (show ¬ 4 * p + m = 4 * zF w k + k by omega), Bool.or_false]
          by_cases gl : m < k
          · rw [decide_eq_true gl, decide_eq_true (show m < k + 1 by omega)]
          · rw [decide_eq_false gl, decide_eq_false (show ¬ m < k + 1 by omega)]
      obtain ⟨Io, x1, x2, x3⟩ := lpP (zP w) 0 k n (x + fq * o) (h ||| (1 <<< (((4 * fq) + n) &&& 31))) fq 0 Im (by omega) (by decide) en kn g1 (fun q m hq hm => by
        rw [g2 q m hq hm]
        by_cases gl : m < k
        · rw [if_pos gl, if_pos (by omega)]
        · rw [if_neg gl, if_neg (by omega)])
      obtain ⟨n', x', h'', w5', w6', I', y1, y2⟩ := ih (k + 1) (n + 1) (x + fq * o) (h ||| (1 <<< (((4 * fq) + n) &&& 31))) (.int fq) (.int (Int32.ofNat (zP w))) Io (by omega) en' ex' hh' x2 x3
      exact ⟨n', x', h'', w5', w6', I', fun vv hq hk => yst_y_3 hG (by rw [g1 3 16 (by omega), fr0 _ _ (by omega) (by omega) (by omega)]; omega) r1 r2 (x1 _ _ (y1 vv hq hk)), y2⟩
  obtain ⟨n', x', h', w5', w6', Id, y1, y2, y3, y4, y5, y6⟩ := lpN (zN w) 0 0 0 0 xmk xmk Ic (by omega) (by decide) (by rw [e0]; unfold zm; rw [zu_f (by omega), zu_f (by omega), zu_f (by omega), zu_f (by omega)]; rfl) (fun p m hp hm => by rw [tb_0, decide_eq_false (by omega)]; rfl) (fun _ _ _ => rfl) (fun q m hq hm => by rw [fc1 q (by omega), tb_0, if_neg (by omega)])
  have i58 : ∀ y, y < 2401 → ((uI Id 57 5 0) 58 y).toInt = -1 := fun y hy => by rw [uI_n _ _ (by omega), y5 58 y (by omega), fc2 58 y (by omega), fb2 58 y (by omega), fa1 y hy, em]
  have hT : yT w (uI Id 57 5 0) := ⟨0, by rw [uI_s]; rfl, yCt_0 (fun k hk => by rw [i58 k hk]; omega), fun i hi => absurd hi (by omega), fun y hy g => by rw [i58 y hy] at g; omega, fun i j hi => absurd hi (by omega), fun y hy => by rw [i58 y hy]; omega⟩
  obtain ⟨I', x1, ⟨a1, a2, a3, a4, a5, a6, a7, a8, a9⟩⟩ := yar_run (L := L) (xs := xs) (d := d + 2) (I := uI Id 57 5 0) (J := J) (R := R) hG hT (t := -1) y3 h0 y4 (c := 0) (by decide)
  rw [em] at a8 a9
  have lE := zE_lt hK
  have iE := i58 _ lE
  have e58 : I' 58 (zE w) = 0 := by
    rcases a4 with ⟨b, -⟩ | ⟨-, b, -⟩
    · rw [iE, e0] at b
      omega
    · exact b
  have i61 : ∀ j, j < 112 → ((uI Id 57 5 0) 61 j).toInt = 64 := fun j hj => by
    rw [uI_n _ _ (by omega), y5 61 j (by omega), fc2 61 j (by omega), fb1 j hj]
    decide
  refine ⟨I', yst_s_3 hG f1 f2 f3 (y1 _ _ (yst_e_3 hG (by rw [y5 3 16 (by omega), fr0 _ _ (by omega) (by omega) (by omega)]; omega) x1)), a2, fun p n hp hn => ?_, fun y hy hne => ?_, by rw [e58, e0], ⟨fun s y p hs hr hp => ?_, fun S p hS hp => ?_⟩, fun c k hc => ?_, ?_⟩
  · rw [a1 62 p (by omega) (by omega) (by omega) (by omega) (by omega), uI_n _ _ (by omega)]
    exact y6 p n hp hn
  · rw [a3 y hne]
    exact i58 y hy
  · have es : s = 0 := by omega
    rw [es] at hr ⊢
    rw [zr_0.mp hr]
    have := a8 (by omega) p hp
    omega
  · have sl : S * 7 + p < 112 := by omega
    rcases a9 (S * 7 + p) with g | ⟨g1, -, p', g3, g4⟩
    · exact Or.inl (by rw [g]; exact i61 _ sl)
    · have epp : p' = p := by omega
      rw [epp] at g4
      exact Or.inr ⟨0, zE w, Nat.le_refl _, zr_0.mpr rfl, by omega, by omega⟩
  · rw [a1 c k (by omega) (by omega) (by omega) (by omega) (by omega), uI_n _ _ (by omega), y5 c k (by omega), fr0 c k (by omega) (by omega) (by omega)]
  · rw [a1 57 8 (by omega) (by omega) (by omega) (by omega) (by omega), uI_n _ _ (by omega), y5 57 8 (by omega), fr0 57 8 (by omega) (by omega) (by omega)]
/-- a piece in time -/
theorem yrw_run_3 {L : Nat} {xs : Nat → Int32} {d : Nat} {I : Nat → Nat → Int32} {J : Nat → Nat → Int64} {R : Nat → Nat → Nat} (hG : aGd R) {w : zW} {nm : Nat} (hK : zK w) (hC : zCl_3 w nm I) (hT : yT w I) {n : Int32} {nN : Nat} (hn : n.toInt = nN) (nl : nN < zN w) (hB : ∀ y, y < 2401 → (I 58 y).toInt ≤ 1000000) :
    ∃ I' : Nat → Nat → Int32, xEv L xs (d + 4) 91 0 [.ref 57, .ref 3, .int n, xmk, xmk, xmk] [] (124, I, J, R) none (124, I', J, R) ∧ I' 57 7 = 1 ∧ (∀ c k, ¬ (c = 57 ∧ k = 7) → c ≠ 58 → I' c k = I c k) ∧ ∀ y, y < 2401 → (I' 58 y).toInt = if 0 ≤ (I 58 y).toInt ∧ zd y nN = zO w nN then (I 58 y).toInt + zX w nN else (I 58 y).toInt := by
  have k4 := hK.1
  have p7 := hK.2.1
  have e4 : (4 : Int32).toInt = 4 := by decide
  have at1 : ∀ (c n : Nat) (i : Int32) (iN : Nat) (Im : Nat → Nat → Int32), (∀ g : FieldType → Nat → Option xR, xarr (124, Im, J, R) c g = g .int n) → n < 2147483648 → i.toInt = iN → iN < n → ∀ d, xEv L xs d 39 0 [.ref c, .int i] [] (124, Im, J, R) (some (.int (Im c iN))) (124, Im, J, R) := by
    intro c n i iN Im ho hn ei hi d
    have ec := clamp_s (i := i) (by omega)
    have h4 := at_run (L := L) (xs := xs) (d := d) (h := (124, Im, J, R)) (c := c) (n := n) ho hn i
    rw [if_pos ⟨by omega, by omega⟩, show i.toNatClampNeg = iN by omega] at h4
    exact h4
  have pt1 : ∀ (c n : Nat) (i x : Int32) (iN : Nat) (Im : Nat → Nat → Int32), (∀ g : FieldType → Nat → Option xR, xarr (124, Im, J, R) c g = g .int n) → n < 2147483648 → i.toInt = iN → iN < n → ∀ d, xEv L xs d 33 0 [.ref c, .int i, .int x] [] (124, Im, J, R) none (124, uI Im c iN x, J, R) := by
    intro c n i x iN Im ho hn ei hi d
    have ec := clamp_s (i := i) (by omega)
    have h4 := put_in (L := L) (xs := xs) (d := d) (I := Im) (J := J) (R := R) (c := c) (n := n) ho hn (i := i) x (by omega) (by omega)
    rw [show i.toNatClampNeg = iN by omega] at h4
    exact h4
  obtain ⟨-, -, -, c6⟩ := hC
  obtain ⟨-, q9, q11, -⟩ := c6 nN nl
  obtain ⟨-, ol, -, X0, X99⟩ := hK.2.2.2.2 nN nl
  have r1 := at1 12 4 n nN (uI I 57 7 1) (fun _ => rfl) (by decide) hn (by omega) (d + 3)
  rw [uI_n _ _ (by omega)] at r1
  obtain ⟨f, hf⟩ : ∃ f, I 12 nN = f := ⟨_, rfl⟩
  rw [hf] at r1
  have ef : f.toInt = zO w nN := by rw [← hf]; exact q9
  have e4f : ((4 * f) + n).toInt = ((4 * zO w nN + nN : Nat) : Int) := by
    have m : (4 * f).toInt = 4 * zO w nN := by rw [i_mul (by rw [e4]; omega) (by rw [e4]; omega), e4, ef]
    rw [i_add (by omega) (by omega), m, hn]
    omega
  obtain ⟨wa, hwa⟩ : ∃ wa : Int32, 1 <<< (((4 * f) + n) &&& 31) = wa := ⟨_, rfl⟩
  obtain ⟨kN, a1, a2, a3, a4, a5, a6⟩ := hT
  have kl : kN ≤ 2401 := yCt_b a2
  have lp : ∀ (j k : Nat) (i : Int32) (w5 : Value) (Im : Nat → Nat → Int32), k + j = kN → i.toInt = k → Im 57 7 = 1 → (∀ c k, ¬ (c = 57 ∧ k = 7) → c ≠ 58 → Im c k = I c k) → (∀ y : Nat, y < 2401 → ((∃ k', k' < k ∧ (I 59 k').toInt = y) ∧ zd y nN = zO w nN → (Im 58 y).toInt = (I 58 y).toInt + zX w nN) ∧ (¬ ((∃ k', k' < k ∧ (I 59 k').toInt = y) ∧ zd y nN = zO w nN) → (Im 58 y).toInt = (I 58 y).toInt)) → ∃ I' : Nat → Nat → Int32, xEv L xs (d + 4) 91 23 [.ref 57, .ref 3, .int n, .int wa, .int i, w5] [] (124, Im, J, R) none (124, I', J, R) ∧ I' 57 7 = 1 ∧ (∀ c k, ¬ (c = 57 ∧ k = 7) → c ≠ 58 → I' c k = I c k) ∧ (∀ y : Nat, y < 2401 → ((∃ k', k' < kN ∧ (I 59 k').toInt = y) ∧ zd y nN = zO w nN → (I' 58 y).toInt = (I 58 y).toInt + zX w nN) ∧ (¬ ((∃ k', k' < kN ∧ (I 59 k').toInt = y) ∧ zd y nN = zO w nN) → (I' 58 y).toInt = (I 58 y).toInt)) := by
    intro j
    induction j with
    | zero =>
      intro k i w5 Im hk ei h7 hf hw
      have e : k = kN := by omega
      rw [e] at hw
      exact ⟨Im, yrw_e_3 hG (by rw [hf 57 5 (by omega) (by omega)]; omega), h7, hf, hw⟩
    | succ j ih =>
      intro k i w5 Im hk ei h7 hf hw
      have ei' : (i + 1).toInt = (k + 1 : Nat) := by rw [i_add1 (by omega)]; omega
      obtain ⟨x, b1, b2, b3, b4⟩ := a3 k (by omega)
      have xl := b2.1.1
      have r60 := at1 60 2401 i k Im (fun _ => rfl) (by decide) ei (by omega) (d + 3)
      rw [hf 60 k (by omega) (by omega)] at r60
      have only : ∀ k', k' < k → (I 59 k').toInt ≠ x := fun k' hk' g => by
        have := a5 k' k (by omega) (by omega) (by omega)
        omega
      have tbx : tb (I 60 k) (4 * zO w nN + nN) = decide (zd x nN = zO w nN) := by rw [b3 _ _ (by omega) (by omega), decide_eq_true nl, Bool.true_and]
      have cnd := tb_one (h := I 60 k) e4f (by omega)
      rw [hwa, tbx] at cnd
      by_cases g : zd x nN = zO w nN
      · have r59 := at1 59 2401 i k Im (fun _ => rfl) (by decide) ei (by omega) (d + 3)
        rw [hf 59 k (by omega) (by omega)] at r59
        have r58 := at1 58 2401 (I 59 k) x Im (fun _ => rfl) (by decide) b1 xl (d + 3)
        have r14 := at1 14 4 n nN Im (fun _ => rfl) (by decide) hn (by omega) (d + 3)
        rw [hf _ _ (by omega) (by omega)] at r14
        have old := (hw x xl).2 (fun h => by
          obtain ⟨⟨k', h1, h2⟩, -⟩ := h
          exact only k' h1 h2)
        have bb := hB x xl
        have esum : (Im 58 x + I 14 nN).toInt = (I 58 x).toInt + zX w nN := by rw [i_add (by omega) (by omega), old, q11]
        have rp := pt1 58 2401 (I 59 k) (Im 58 x + I 14 nN) x Im (fun _ => rfl) (by decide) b1 xl (d + 3)
        obtain ⟨I', z1, z2⟩ := ih (k + 1) (i + 1) (.int (I 59 k)) (uI Im 58 x (Im 58 x + I 14 nN)) (by omega) ei' (by rw [uI_n _ _ (by omega)]; exact h7) (fun c q e1 e2 => by rw [uI_c _ _ _ e2]; exact hf c q e1 e2) (fun y hy => by
          by_cases gy : y = x
          · rw [gy, uI_s]
            exact ⟨fun _ => esum, fun h => absurd ⟨⟨k, by omega, b1⟩, g⟩ h⟩
          · rw [uI_n _ _ (fun e => gy e.2)]
            obtain ⟨o1, o2⟩ := hw y hy
            constructor
            · rintro ⟨⟨k', h1, h2⟩, h3⟩
              refine o1 ⟨⟨k', Classical.byContradiction fun nk => ?_, h2⟩, h3⟩
              have e : k' = k := by omega
              rw [e] at h2
              omega
            · intro h
              exact o2 (fun ⟨⟨k', h1, h2⟩, h3⟩ => h ⟨⟨k', by omega, h2⟩, h3⟩))
        exact ⟨I', yrw_y_3 hG (by rw [hf 57 5 (by omega) (by omega)]; omega) r60 (cnd.mpr (decide_eq_true g)) r59 r58 r14 rp z1, z2⟩
      · have no : (I 60 k &&& wa).toInt = 0 := Classical.byContradiction fun h => by
          have := cnd.mp h
          rw [decide_eq_false g] at this
          cases this
        obtain ⟨I', z1, z2⟩ := ih (k + 1) (i + 1) w5 Im (by omega) ei' h7 hf (fun y hy => by
          obtain ⟨o1, o2⟩ := hw y hy
          constructor
          · rintro ⟨⟨k', h1, h2⟩, h3⟩
            refine o1 ⟨⟨k', Classical.byContradiction fun nk => ?_, h2⟩, h3⟩
            have e : k' = k := by omega
            rw [e] at h2
            have ey : y = x := by omega
            rw [ey] at h3
            exact g h3
          · intro h
            exact o2 (fun ⟨⟨k', h1, h2⟩, h3⟩ => h ⟨⟨k', by omega, h2⟩, h3⟩))
        exact ⟨I', yrw_n_3 hG (by rw [hf 57 5 (by omega) (by omega)]; omega) r60 no z1, z2⟩
  obtain ⟨I', z1, z2, z3, z4⟩ := lp kN 0 0 xmk (uI I 57 7 1) (by omega) (by decide) (uI_s _ _ _ _) (fun c k e1 _ => uI_n _ _ e1) (fun y hy => ⟨fun ⟨⟨k', h1, _⟩, _⟩ => absurd h1 (by omega), fun _ => by rw [uI_n _ _ (by omega)]⟩)
  refine ⟨I', yrw_s_3 hG r1 (by rw [hwa]; exact z1), z2, z3, fun y hy => ?_⟩
  obtain ⟨o1, o2⟩ := z4 y hy
  by_cases g : 0 ≤ (I 58 y).toInt ∧ zd y nN = zO w nN
  · rw [if_pos g]
    exact o1 ⟨a4 y hy g.1, g.2⟩
  · rw [if_neg g]
    refine o2 (fun ⟨⟨k', h1, h2⟩, h3⟩ => g ⟨?_, h3⟩)
    obtain ⟨x, b1, -, -, b4⟩ := a3 k' h1
    have e : x = y := by omega
    rw [← e]
    exact b4
theorem yst_run_23 {L : Nat} {xs : Nat → Int32} {d : Nat} {I : Nat → Nat → Int32} {J : Nat → Nat → Int64} {R : Nat → Nat → Nat} (hG : aGd R) {w : zW} {nm : Nat} (hK : zK w) (h0 : zV w (zE w)) (hC : zCl_23 w nm I) :
    ∃ I' : Nat → Nat → Int32, xEv L xs (d + 4) 85 0 [.ref 57, .ref 23, xmk, xmk, xmk, xmk, xmk] [] (124, I, J, R) none (124, I', J, R) ∧ yT w I' ∧ yBa w I' ∧ (∀ y, y < 2401 → y ≠ zE w → (I' 58 y).toInt = -1) ∧ (I' 58 (zE w)).toInt = 0 ∧ yW w 0 I' ∧ (∀ c k, c < 57 → I' c k = I c k) ∧ I' 57 8 = I 57 8 := by
  have k4 := hK.1
  have p7 := hK.2.1
  have e4 : (4 : Int32).toInt = 4 := by decide
  have em : (-1 : Int32).toInt = -1 := by decide
  have e0 : (0 : Int32).toInt = 0 := by decide
  have at1 : ∀ (c n : Nat) (i : Int32) (iN : Nat) (Im : Nat → Nat → Int32), (∀ g : FieldType → Nat → Option xR, xarr (124, Im, J, R) c g = g .int n) → n < 2147483648 → i.toInt = iN → iN < n → ∀ d, xEv L xs d 39 0 [.ref c, .int i] [] (124, Im, J, R) (some (.int (Im c iN))) (124, Im, J, R) := by
    intro c n i iN Im ho hn ei hi d
    have ec := clamp_s (i := i) (by omega)
    have h4 := at_run (L := L) (xs := xs) (d := d) (h := (124, Im, J, R)) (c := c) (n := n) ho hn i
    rw [if_pos ⟨by omega, by omega⟩, show i.toNatClampNeg = iN by omega] at h4
    exact h4
  have pt1 : ∀ (c n : Nat) (i x : Int32) (iN : Nat) (Im : Nat → Nat → Int32), (∀ g : FieldType → Nat → Option xR, xarr (124, Im, J, R) c g = g .int n) → n < 2147483648 → i.toInt = iN → iN < n → ∀ d, xEv L xs d 33 0 [.ref c, .int i, .int x] [] (124, Im, J, R) none (124, uI Im c iN x, J, R) := by
    intro c n i x iN Im ho hn ei hi d
    have ec := clamp_s (i := i) (by omega)
    have h4 := put_in (L := L) (xs := xs) (d := d) (I := Im) (J := J) (R := R) (c := c) (n := n) ho hn (i := i) x (by omega) (by omega)
    rw [show i.toNatClampNeg = iN by omega] at h4
    exact h4
  obtain ⟨Ia, f1, fa1, fa2⟩ := yfi_58 (L := L) (xs := xs) (d := d + 3) (I := I) (J := J) (R := R) hG (-1)
  obtain ⟨Ib, f2, fb1, fb2⟩ := yfi_61 (L := L) (xs := xs) (d := d + 3) (I := Ia) (J := J) (R := R) hG 64
  obtain ⟨Ic, f3, fc1, fc2⟩ := yfi_62 (L := L) (xs := xs) (d := d + 3) (I := Ib) (J := J) (R := R) hG 0
  have fr0 : ∀ c k, c ≠ 58 → c ≠ 61 → c ≠ 62 → Ic c k = I c k := fun c k a b e => by rw [fc2 c k e, fb2 c k b, fa2 c k a]
  obtain ⟨⟨c1, c2, -, -⟩, -, -, c6⟩ := hC
  -- the barred of one more
  have lpP : ∀ (f p nN : Nat) (n x h fq pi : Int32) (Im : Nat → Nat → Int32), p + f = zP w → pi.toInt = p → n.toInt = nN → nN < zN w → (∀ c k, c ≠ 62 → Im c k = Ic c k) → (∀ q m, q < zP w → m < 32 → tb (Im 62 q) m = if m < nN ∨ (m = nN ∧ q < p) then zR w m q else false) → ∃ I' : Nat → Nat → Int32, (∀ (vv : Option Value) (h' : xH), xEv L xs (d + 4) 85 32 [.ref 57, .ref 23, .int x, .int h, .int (n + 1), .int fq, .int (Int32.ofNat (zP w))] [] (124, I', J, R) vv h' → xEv L xs (d + 4) 85 83 [.ref 57, .ref 23, .int x, .int h, .int n, .int fq, .int pi] [] (124, Im, J, R) vv h') ∧ (∀ c k, c ≠ 62 → I' c k = Ic c k) ∧ (∀ q m, q < zP w → m < 32 → tb (I' 62 q) m = if m < nN + 1 then zR w m q else false) := by
    intro f
    induction f with
    | zero =>
      intro p nN n x h fq pi Im hp ep en nl g1 g2
      have e : p = zP w := by omega
      have epi : pi = Int32.ofNat (zP w) := Int32.toInt_inj.mp (by rw [ep, e, Int32.toInt_ofNat_of_lt (by omega)])
      refine ⟨Im, fun vv h' hk => yst_f_23 hG (by rw [g1 23 14 (by omega), fr0 _ _ (by omega) (by omega) (by omega)]; omega) (by rw [epi]; exact hk), g1, fun q m hq hm => ?_⟩
      rw [g2 q m hq hm]
      by_cases g : m < nN + 1
      · rw [if_pos (by omega), if_pos g]
      · rw [if_neg (by omega), if_neg g]
    | succ f ih =>
      intro p nN n x h fq pi Im hp ep en nl g1 g2
      have ep' : (pi + 1).toInt = (p + 1 : Nat) := by rw [i_add1 (by omega)]; omega
      have pp : p < zP w := by omega
      have r1 := at1 62 7 pi p Im (fun _ => rfl) (by decide) ep (by omega) (d + 3)
      have r2 := at1 35 4 n nN Im (fun _ => rfl) (by decide) en (by omega) (d + 3)
      obtain ⟨b, hb⟩ : ∃ b, Im 35 nN = b := ⟨_, rfl⟩
      have tbb : tb b p = zR w nN p := by
        rw [← hb, g1 _ _ (by omega), fr0 _ _ (by omega) (by omega) (by omega)]
        exact (c6 nN nl).2.2.2.2 p (by omega)
      rw [hb] at r2
      obtain ⟨z, hz⟩ : ∃ z, Im 62 p ||| (((b >>> (pi &&& 31)) &&& 1) <<< (n &&& 31)) = z := ⟨_, rfl⟩
      have r3 := pt1 62 7 pi z p Im (fun _ => rfl) (by decide) ep (by omega) (d + 3)
      have tz : ∀ m, m < 32 → tb z m = (tb (Im 62 p) m || (decide (m = nN) && zR w nN p)) := fun m hm => by
        rw [← hz, tb_or, tb_shr ep (by omega), tbb]
        cases zR w nN p with
        | true => rw [if_pos rfl, tb_shl en (by omega), Bool.and_true]
        | false => rw [if_neg (by decide), tb_sal en (by omega) hm, tb_0, Bool.and_false, Bool.and_false]
      obtain ⟨I', x1, x2⟩ := ih (p + 1) nN n x h fq (pi + 1) (uI Im 62 p z) (by omega) ep' en nl (fun c k hc => by rw [uI_c _ _ _ hc]; exact g1 c k hc) (fun q m hq hm => by
        by_cases gq : q = p
        · rw [gq, uI_s, tz m hm, g2 p m pp hm]
          by_cases gm : m = nN
          · rw [gm, if_neg (by omega), if_pos (by omega), decide_eq_true rfl]
            rfl
          · rw [decide_eq_false gm, Bool.false_and, Bool.or_false]
            by_cases gl : m < nN
            · rw [if_pos (by omega), if_pos (by omega)]
            · rw [if_neg (by omega), if_neg (by omega)]
        · rw [uI_n _ _ (fun e => gq e.2), g2 q m hq hm]
          by_cases gl : m < nN ∨ (m = nN ∧ q < p)
          · rw [if_pos gl, if_pos (by omega)]
          · rw [if_neg gl, if_neg (by omega)])
      exact ⟨I', fun vv h' hk => yst_z_23 hG (by rw [g1 23 14 (by omega), fr0 _ _ (by omega) (by omega) (by omega)]; omega) r1 r2 (by rw [hz]; exact r3) (x1 vv h' hk), x2⟩
  -- all pieces
  have lpN : ∀ (f k : Nat) (n x h : Int32) (w5 w6 : Value) (Im : Nat → Nat → Int32), k + f = zN w → n.toInt = k → x.toInt = zm (zu (zF w) k) → (∀ p m, p < 8 → m < 4 → tb h (4 * p + m) = (decide (m < k) && decide (zF w m = p))) → (∀ c k, c ≠ 62 → Im c k = Ic c k) → (∀ q m, q < zP w → m < 32 → tb (Im 62 q) m = if m < k then zR w m q else false) → ∃ (n' x' h' : Int32) (w5' w6' : Value) (I' : Nat → Nat → Int32), (∀ (vv : Option Value) (hh : xH), xEv L xs (d + 4) 85 32 [.ref 57, .ref 23, .int x', .int h', .int n', w5', w6'] [] (124, I', J, R) vv hh → xEv L xs (d + 4) 85 32 [.ref 57, .ref 23, .int x, .int h, .int n, w5, w6] [] (124, Im, J, R) vv hh) ∧ n'.toInt = zN w ∧ x'.toInt = zE w ∧ yHd w h' (zE w) ∧ (∀ c k, c ≠ 62 → I' c k = Ic c k) ∧ yBa w I' := by
    intro f
    induction f with
    | zero =>
      intro k n x h w5 w6 Im hk en ex hh g1 g2
      have e : k = zN w := by omega
      subst e
      refine ⟨n, x, h, w5, w6, Im, fun _ _ hk => hk, en, ex, fun p m hp hm => ?_, g1, fun p m hp hm => ?_⟩
      · rw [hh p m hp hm, zE_d hK hm]
        by_cases g : m < zN w
        · rw [if_pos g]
        · rw [decide_eq_false g, Bool.false_and, Bool.false_and]
      · rw [g2 p m hp (by omega), if_pos hm]
    | succ f ih =>
      intro k n x h w5 w6 Im hk en ex hh g1 g2
      have kn : k < zN w := by omega
      have en' : (n + 1).toInt = (k + 1 : Nat) := by rw [i_add1 (by omega)]; omega
      have r1 := at1 31 4 n k Im (fun _ => rfl) (by decide) en (by omega) (d + 3)
      obtain ⟨fq, hfq⟩ : ∃ fq, Im 31 k = fq := ⟨_, rfl⟩
      rw [hfq] at r1
      have efq : fq.toInt = zF w k := by
        rw [← hfq, g1 _ _ (by omega), fr0 _ _ (by omega) (by omega) (by omega)]
        exact (c6 k kn).1
      have fl := (hK.2.2.2.2 k kn).1
      obtain ⟨t1, t2, t3⟩ := yo2_T k (by omega)
      have en1 : n = Int32.ofNat k := k_small en (by omega)
      obtain ⟨o, r2, eo⟩ := yon_run (L := L) (xs := xs) (d := d + 3) (I := Im) (J := J) (R := R) hG t2
      rw [← t1, ← en1] at r2
      rw [t3] at eo
      have b7 := z7_b k (by omega)
      have bx := zm_lt (zu_b hK (show k ≤ zN w by omega))
      have pr : (zF w k) * 7 ^ k ≤ 6 * 343 := Nat.mul_le_mul (by omega) b7
      have epc : fq.toInt * o.toInt = ((zF w k * 7 ^ k : Nat) : Int) := by
        rw [efq, eo]
        rfl
      have zus := zu_s (zF w) (show k < 4 by omega)
      obtain ⟨pq, hpq⟩ : ∃ pq, zF w k * 7 ^ k = pq := ⟨_, rfl⟩
      rw [hpq] at epc pr zus
      have epr : (fq * o).toInt = pq := by
        rw [i_mul (by rw [epc]; omega) (by rw [epc]; omega)]
        exact epc
      have ex' : (x + fq * o).toInt = zm (zu (zF w) (k + 1)) := by
        rw [zus, i_add (by omega) (by omega), ex, epr]
        rfl
      have e4f : ((4 * fq) + n).toInt = ((4 * zF w k + k : Nat) : Int) := by
        have m : (4 * fq).toInt = 4 * zF w k := by rw [i_mul (by rw [e4]; omega) (by rw [e4]; omega), e4, efq]
        rw [i_add (by omega) (by omega), m, en]
        omega
      have hh' : ∀ p m, p < 8 → m < 4 → tb (h ||| (1 <<< (((4 * fq) + n) &&& 31))) (4 * p + m) = (decide (m < k + 1) && decide (zF w m = p)) := fun p m hp hm => by
        rw [tb_or, hh p m hp hm, tb_shl e4f (by omega)]
        by_cases gm : m = k
        · rw [gm, decide_eq_false (Nat.lt_irrefl k), decide_eq_true (show k < k + 1 by omega), Bool.false_and, Bool.false_or, Bool.true_and]
          by_cases gp : zF w k = p
          · rw [decide_eq_true gp, decide_eq_true (by omega)]
          · rw [decide_eq_false gp, decide_eq_false (by omega)]
        · rw [decide_eq_false (show ¬ 4 * p + m = 4 * zF w k + k by omega), Bool.or_false]
          by_cases gl : m < k
          · rw [decide_eq_true gl, decide_eq_true (show m < k + 1 by omega)]
          · rw [decide_eq_false gl, decide_eq_false (show ¬ m < k + 1 by omega)]
      obtain ⟨Io, x1, x2, x3⟩ := lpP (zP w) 0 k n (x + fq * o) (h ||| (1 <<< (((4 * fq) + n) &&& 31))) fq 0 Im (by omega) (by decide) en kn g1 (fun q m hq hm => by
        rw [g2 q m hq hm]
        by_cases gl : m < k
        · rw [if_pos gl, if_pos (by omega)]
        · rw [if_neg gl, if_neg (by omega)])
      obtain ⟨n', x', h'', w5', w6', I', y1, y2⟩ := ih (k + 1) (n + 1) (x + fq * o) (h ||| (1 <<< (((4 * fq) + n) &&& 31))) (.int fq) (.int (Int32.ofNat (zP w))) Io (by omega) en' ex' hh' x2 x3
      exact ⟨n', x', h'', w5', w6', I', fun vv hq hk => yst_y_23 hG (by rw [g1 23 16 (by omega), fr0 _ _ (by omega) (by omega) (by omega)]; omega) r1 r2 (x1 _ _ (y1 vv hq hk)), y2⟩
  obtain ⟨n', x', h', w5', w6', Id, y1, y2, y3, y4, y5, y6⟩ := lpN (zN w) 0 0 0 0 xmk xmk Ic (by omega) (by decide) (by rw [e0]; unfold zm; rw [zu_f (by omega), zu_f (by omega), zu_f (by omega), zu_f (by omega)]; rfl) (fun p m hp hm => by rw [tb_0, decide_eq_false (by omega)]; rfl) (fun _ _ _ => rfl) (fun q m hq hm => by rw [fc1 q (by omega), tb_0, if_neg (by omega)])
  have i58 : ∀ y, y < 2401 → ((uI Id 57 5 0) 58 y).toInt = -1 := fun y hy => by rw [uI_n _ _ (by omega), y5 58 y (by omega), fc2 58 y (by omega), fb2 58 y (by omega), fa1 y hy, em]
  have hT : yT w (uI Id 57 5 0) := ⟨0, by rw [uI_s]; rfl, yCt_0 (fun k hk => by rw [i58 k hk]; omega), fun i hi => absurd hi (by omega), fun y hy g => by rw [i58 y hy] at g; omega, fun i j hi => absurd hi (by omega), fun y hy => by rw [i58 y hy]; omega⟩
  obtain ⟨I', x1, ⟨a1, a2, a3, a4, a5, a6, a7, a8, a9⟩⟩ := yar_run (L := L) (xs := xs) (d := d + 2) (I := uI Id 57 5 0) (J := J) (R := R) hG hT (t := -1) y3 h0 y4 (c := 0) (by decide)
  rw [em] at a8 a9
  have lE := zE_lt hK
  have iE := i58 _ lE
  have e58 : I' 58 (zE w) = 0 := by
    rcases a4 with ⟨b, -⟩ | ⟨-, b, -⟩
    · rw [iE, e0] at b
      omega
    · exact b
  have i61 : ∀ j, j < 112 → ((uI Id 57 5 0) 61 j).toInt = 64 := fun j hj => by
    rw [uI_n _ _ (by omega), y5 61 j (by omega), fc2 61 j (by omega), fb1 j hj]
    decide
  refine ⟨I', yst_s_23 hG f1 f2 f3 (y1 _ _ (yst_e_23 hG (by rw [y5 23 16 (by omega), fr0 _ _ (by omega) (by omega) (by omega)]; omega) x1)), a2, fun p n hp hn => ?_, fun y hy hne => ?_, by rw [e58, e0], ⟨fun s y p hs hr hp => ?_, fun S p hS hp => ?_⟩, fun c k hc => ?_, ?_⟩
  · rw [a1 62 p (by omega) (by omega) (by omega) (by omega) (by omega), uI_n _ _ (by omega)]
    exact y6 p n hp hn
  · rw [a3 y hne]
    exact i58 y hy
  · have es : s = 0 := by omega
    rw [es] at hr ⊢
    rw [zr_0.mp hr]
    have := a8 (by omega) p hp
    omega
  · have sl : S * 7 + p < 112 := by omega
    rcases a9 (S * 7 + p) with g | ⟨g1, -, p', g3, g4⟩
    · exact Or.inl (by rw [g]; exact i61 _ sl)
    · have epp : p' = p := by omega
      rw [epp] at g4
      exact Or.inr ⟨0, zE w, Nat.le_refl _, zr_0.mpr rfl, by omega, by omega⟩
  · rw [a1 c k (by omega) (by omega) (by omega) (by omega) (by omega), uI_n _ _ (by omega), y5 c k (by omega), fr0 c k (by omega) (by omega) (by omega)]
  · rw [a1 57 8 (by omega) (by omega) (by omega) (by omega) (by omega), uI_n _ _ (by omega), y5 57 8 (by omega), fr0 57 8 (by omega) (by omega) (by omega)]
/-- a piece in time -/
theorem yrw_run_23 {L : Nat} {xs : Nat → Int32} {d : Nat} {I : Nat → Nat → Int32} {J : Nat → Nat → Int64} {R : Nat → Nat → Nat} (hG : aGd R) {w : zW} {nm : Nat} (hK : zK w) (hC : zCl_23 w nm I) (hT : yT w I) {n : Int32} {nN : Nat} (hn : n.toInt = nN) (nl : nN < zN w) (hB : ∀ y, y < 2401 → (I 58 y).toInt ≤ 1000000) :
    ∃ I' : Nat → Nat → Int32, xEv L xs (d + 4) 91 0 [.ref 57, .ref 23, .int n, xmk, xmk, xmk] [] (124, I, J, R) none (124, I', J, R) ∧ I' 57 7 = 1 ∧ (∀ c k, ¬ (c = 57 ∧ k = 7) → c ≠ 58 → I' c k = I c k) ∧ ∀ y, y < 2401 → (I' 58 y).toInt = if 0 ≤ (I 58 y).toInt ∧ zd y nN = zO w nN then (I 58 y).toInt + zX w nN else (I 58 y).toInt := by
  have k4 := hK.1
  have p7 := hK.2.1
  have e4 : (4 : Int32).toInt = 4 := by decide
  have at1 : ∀ (c n : Nat) (i : Int32) (iN : Nat) (Im : Nat → Nat → Int32), (∀ g : FieldType → Nat → Option xR, xarr (124, Im, J, R) c g = g .int n) → n < 2147483648 → i.toInt = iN → iN < n → ∀ d, xEv L xs d 39 0 [.ref c, .int i] [] (124, Im, J, R) (some (.int (Im c iN))) (124, Im, J, R) := by
    intro c n i iN Im ho hn ei hi d
    have ec := clamp_s (i := i) (by omega)
    have h4 := at_run (L := L) (xs := xs) (d := d) (h := (124, Im, J, R)) (c := c) (n := n) ho hn i
    rw [if_pos ⟨by omega, by omega⟩, show i.toNatClampNeg = iN by omega] at h4
    exact h4
  have pt1 : ∀ (c n : Nat) (i x : Int32) (iN : Nat) (Im : Nat → Nat → Int32), (∀ g : FieldType → Nat → Option xR, xarr (124, Im, J, R) c g = g .int n) → n < 2147483648 → i.toInt = iN → iN < n → ∀ d, xEv L xs d 33 0 [.ref c, .int i, .int x] [] (124, Im, J, R) none (124, uI Im c iN x, J, R) := by
    intro c n i x iN Im ho hn ei hi d
    have ec := clamp_s (i := i) (by omega)
    have h4 := put_in (L := L) (xs := xs) (d := d) (I := Im) (J := J) (R := R) (c := c) (n := n) ho hn (i := i) x (by omega) (by omega)
    rw [show i.toNatClampNeg = iN by omega] at h4
    exact h4
  obtain ⟨-, -, -, c6⟩ := hC
  obtain ⟨-, q9, q11, -⟩ := c6 nN nl
  obtain ⟨-, ol, -, X0, X99⟩ := hK.2.2.2.2 nN nl
  have r1 := at1 32 4 n nN (uI I 57 7 1) (fun _ => rfl) (by decide) hn (by omega) (d + 3)
  rw [uI_n _ _ (by omega)] at r1
  obtain ⟨f, hf⟩ : ∃ f, I 32 nN = f := ⟨_, rfl⟩
  rw [hf] at r1
  have ef : f.toInt = zO w nN := by rw [← hf]; exact q9
  have e4f : ((4 * f) + n).toInt = ((4 * zO w nN + nN : Nat) : Int) := by
    have m : (4 * f).toInt = 4 * zO w nN := by rw [i_mul (by rw [e4]; omega) (by rw [e4]; omega), e4, ef]
    rw [i_add (by omega) (by omega), m, hn]
    omega
  obtain ⟨wa, hwa⟩ : ∃ wa : Int32, 1 <<< (((4 * f) + n) &&& 31) = wa := ⟨_, rfl⟩
  obtain ⟨kN, a1, a2, a3, a4, a5, a6⟩ := hT
  have kl : kN ≤ 2401 := yCt_b a2
  have lp : ∀ (j k : Nat) (i : Int32) (w5 : Value) (Im : Nat → Nat → Int32), k + j = kN → i.toInt = k → Im 57 7 = 1 → (∀ c k, ¬ (c = 57 ∧ k = 7) → c ≠ 58 → Im c k = I c k) → (∀ y : Nat, y < 2401 → ((∃ k', k' < k ∧ (I 59 k').toInt = y) ∧ zd y nN = zO w nN → (Im 58 y).toInt = (I 58 y).toInt + zX w nN) ∧ (¬ ((∃ k', k' < k ∧ (I 59 k').toInt = y) ∧ zd y nN = zO w nN) → (Im 58 y).toInt = (I 58 y).toInt)) → ∃ I' : Nat → Nat → Int32, xEv L xs (d + 4) 91 23 [.ref 57, .ref 23, .int n, .int wa, .int i, w5] [] (124, Im, J, R) none (124, I', J, R) ∧ I' 57 7 = 1 ∧ (∀ c k, ¬ (c = 57 ∧ k = 7) → c ≠ 58 → I' c k = I c k) ∧ (∀ y : Nat, y < 2401 → ((∃ k', k' < kN ∧ (I 59 k').toInt = y) ∧ zd y nN = zO w nN → (I' 58 y).toInt = (I 58 y).toInt + zX w nN) ∧ (¬ ((∃ k', k' < kN ∧ (I 59 k').toInt = y) ∧ zd y nN = zO w nN) → (I' 58 y).toInt = (I 58 y).toInt)) := by
    intro j
    induction j with
    | zero =>
      intro k i w5 Im hk ei h7 hf hw
      have e : k = kN := by omega
      rw [e] at hw
      exact ⟨Im, yrw_e_23 hG (by rw [hf 57 5 (by omega) (by omega)]; omega), h7, hf, hw⟩
    | succ j ih =>
      intro k i w5 Im hk ei h7 hf hw
      have ei' : (i + 1).toInt = (k + 1 : Nat) := by rw [i_add1 (by omega)]; omega
      obtain ⟨x, b1, b2, b3, b4⟩ := a3 k (by omega)
      have xl := b2.1.1
      have r60 := at1 60 2401 i k Im (fun _ => rfl) (by decide) ei (by omega) (d + 3)
      rw [hf 60 k (by omega) (by omega)] at r60
      have only : ∀ k', k' < k → (I 59 k').toInt ≠ x := fun k' hk' g => by
        have := a5 k' k (by omega) (by omega) (by omega)
        omega
      have tbx : tb (I 60 k) (4 * zO w nN + nN) = decide (zd x nN = zO w nN) := by rw [b3 _ _ (by omega) (by omega), decide_eq_true nl, Bool.true_and]
      have cnd := tb_one (h := I 60 k) e4f (by omega)
      rw [hwa, tbx] at cnd
      by_cases g : zd x nN = zO w nN
      · have r59 := at1 59 2401 i k Im (fun _ => rfl) (by decide) ei (by omega) (d + 3)
        rw [hf 59 k (by omega) (by omega)] at r59
        have r58 := at1 58 2401 (I 59 k) x Im (fun _ => rfl) (by decide) b1 xl (d + 3)
        have r14 := at1 34 4 n nN Im (fun _ => rfl) (by decide) hn (by omega) (d + 3)
        rw [hf _ _ (by omega) (by omega)] at r14
        have old := (hw x xl).2 (fun h => by
          obtain ⟨⟨k', h1, h2⟩, -⟩ := h
          exact only k' h1 h2)
        have bb := hB x xl
        have esum : (Im 58 x + I 34 nN).toInt = (I 58 x).toInt + zX w nN := by rw [i_add (by omega) (by omega), old, q11]
        have rp := pt1 58 2401 (I 59 k) (Im 58 x + I 34 nN) x Im (fun _ => rfl) (by decide) b1 xl (d + 3)
        obtain ⟨I', z1, z2⟩ := ih (k + 1) (i + 1) (.int (I 59 k)) (uI Im 58 x (Im 58 x + I 34 nN)) (by omega) ei' (by rw [uI_n _ _ (by omega)]; exact h7) (fun c q e1 e2 => by rw [uI_c _ _ _ e2]; exact hf c q e1 e2) (fun y hy => by
          by_cases gy : y = x
          · rw [gy, uI_s]
            exact ⟨fun _ => esum, fun h => absurd ⟨⟨k, by omega, b1⟩, g⟩ h⟩
          · rw [uI_n _ _ (fun e => gy e.2)]
            obtain ⟨o1, o2⟩ := hw y hy
            constructor
            · rintro ⟨⟨k', h1, h2⟩, h3⟩
              refine o1 ⟨⟨k', Classical.byContradiction fun nk => ?_, h2⟩, h3⟩
              have e : k' = k := by omega
              rw [e] at h2
              omega
            · intro h
              exact o2 (fun ⟨⟨k', h1, h2⟩, h3⟩ => h ⟨⟨k', by omega, h2⟩, h3⟩))
        exact ⟨I', yrw_y_23 hG (by rw [hf 57 5 (by omega) (by omega)]; omega) r60 (cnd.mpr (decide_eq_true g)) r59 r58 r14 rp z1, z2⟩
      · have no : (I 60 k &&& wa).toInt = 0 := Classical.byContradiction fun h => by
          have := cnd.mp h
          rw [decide_eq_false g] at this
          cases this
        obtain ⟨I', z1, z2⟩ := ih (k + 1) (i + 1) w5 Im (by omega) ei' h7 hf (fun y hy => by
          obtain ⟨o1, o2⟩ := hw y hy
          constructor
          · rintro ⟨⟨k', h1, h2⟩, h3⟩
            refine o1 ⟨⟨k', Classical.byContradiction fun nk => ?_, h2⟩, h3⟩
            have e : k' = k := by omega
            rw [e] at h2
            have ey : y = x := by omega
            rw [ey] at h3
            exact g h3
          · intro h
            exact o2 (fun ⟨⟨k', h1, h2⟩, h3⟩ => h ⟨⟨k', by omega, h2⟩, h3⟩))
        exact ⟨I', yrw_n_23 hG (by rw [hf 57 5 (by omega) (by omega)]; omega) r60 no z1, z2⟩
  obtain ⟨I', z1, z2, z3, z4⟩ := lp kN 0 0 xmk (uI I 57 7 1) (by omega) (by decide) (uI_s _ _ _ _) (fun c k e1 _ => uI_n _ _ e1) (fun y hy => ⟨fun ⟨⟨k', h1, _⟩, _⟩ => absurd h1 (by omega), fun _ => by rw [uI_n _ _ (by omega)]⟩)
  refine ⟨I', yrw_s_23 hG r1 (by rw [hwa]; exact z1), z2, z3, fun y hy => ?_⟩
  obtain ⟨o1, o2⟩ := z4 y hy
  by_cases g : 0 ≤ (I 58 y).toInt ∧ zd y nN = zO w nN
  · rw [if_pos g]
    exact o1 ⟨a4 y hy g.1, g.2⟩
  · rw [if_neg g]
    refine o2 (fun ⟨⟨k', h1, h2⟩, h3⟩ => g ⟨?_, h3⟩)
    obtain ⟨x, b1, -, -, b4⟩ := a3 k' h1
    have e : x = y := by omega
    rw [← e]
    exact b4
