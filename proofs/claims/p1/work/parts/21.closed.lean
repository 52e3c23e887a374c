noncomputable def xpair (n jx jm : Nat) (ax am : List Value) : Bool := match xrun 2147483648 (fun _ => 0) n 19 jx 0 ax [] xhN with
  | some (some (.int a), h1) => match xrun 2147483648 (fun _ => 0) n 19 jm 0 am [] h1 with
    | some (some (.int b), h2) => decide (a = b) && decide (h1.1 = 124) && decide (h2.1 = 124)
    | _ => false
  | _ => false
theorem xpair_s {n jx jm : Nat} {ax am : List Value} (h : xpair n jx jm ax am = true) {L : Nat} {xs : Nat → Int32} : ∃ r i1 l1 r1 i2 l2 r2, xEv L xs 19 jx 0 ax [] xhN (some (.int r)) (124, i1, l1, r1) ∧ xEv L xs 19 jm 0 am [] (124, i1, l1, r1) (some (.int r)) (124, i2, l2, r2) := by
  unfold xpair at h
  split at h
  · rename_i a h1 e1
    split at h
    · rename_i b h2 e2
      rw [Bool.and_eq_true, Bool.and_eq_true, decide_eq_true_eq, decide_eq_true_eq, decide_eq_true_eq] at h
      obtain ⟨⟨rfl, e4⟩, e5⟩ := h
      obtain ⟨n1, i1, l1, r1⟩ := h1
      obtain ⟨n2, i2, l2, r2⟩ := h2
      dsimp only at e4 e5
      subst e4
      subst e5
      exact ⟨_, i1, l1, r1, i2, l2, r2, ⟨n, xrun_off e1⟩, ⟨n, xrun_off e2⟩⟩
    · cases h
  · cases h
theorem pc_village {L : Nat} {xs : Nat → Int32} : ∃ r i1 l1 r1 i2 l2 r2, xEv L xs 19 17 0 [.ref 0, xmk, xmk] [] xhN (some (.int r)) (124, i1, l1, r1) ∧ xEv L xs 19 148 0 [.ref 86, xmk] [] (124, i1, l1, r1) (some (.int r)) (124, i2, l2, r2) := xpair_s (n := 4000) (by decide +kernel)
theorem pc_judge {L : Nat} {xs : Nat → Int32} : ∃ r i1 l1 r1 i2 l2 r2, xEv L xs 19 53 0 [.ref 0, xmk] [] xhN (some (.int r)) (124, i1, l1, r1) ∧ xEv L xs 19 172 0 [.ref 86, xmk, xmk] [] (124, i1, l1, r1) (some (.int r)) (124, i2, l2, r2) := xpair_s (n := 4000) (by decide +kernel)
theorem pc_fault_0 {L : Nat} {xs : Nat → Int32} : ∃ r i1 l1 r1 i2 l2 r2, xEv L xs 19 47 0 [.ref 0, .int 0] [] xhN (some (.int r)) (124, i1, l1, r1) ∧ xEv L xs 19 147 0 [.ref 86, .int 0] [] (124, i1, l1, r1) (some (.int r)) (124, i2, l2, r2) := xpair_s (n := 4000) (by decide +kernel)
theorem pc_fault_1 {L : Nat} {xs : Nat → Int32} : ∃ r i1 l1 r1 i2 l2 r2, xEv L xs 19 47 0 [.ref 0, .int 1] [] xhN (some (.int r)) (124, i1, l1, r1) ∧ xEv L xs 19 147 0 [.ref 86, .int 1] [] (124, i1, l1, r1) (some (.int r)) (124, i2, l2, r2) := xpair_s (n := 4000) (by decide +kernel)
theorem pc_reply_0 {L : Nat} {xs : Nat → Int32} : ∃ r i1 l1 r1 i2 l2 r2, xEv L xs 19 95 0 [.ref 0, .int 0, xmk] [] xhN (some (.int r)) (124, i1, l1, r1) ∧ xEv L xs 19 210 0 [.ref 86, .int 0, xmk, xmk, xmk] [] (124, i1, l1, r1) (some (.int r)) (124, i2, l2, r2) := xpair_s (n := 4000) (by decide +kernel)
theorem pc_take_0 {L : Nat} {xs : Nat → Int32} : ∃ r i1 l1 r1 i2 l2 r2, xEv L xs 19 138 0 [.ref 0, .int 0, xmk] [] xhN (some (.int r)) (124, i1, l1, r1) ∧ xEv L xs 19 235 0 [.ref 86, .int 0, xmk] [] (124, i1, l1, r1) (some (.int r)) (124, i2, l2, r2) := xpair_s (n := 4000) (by decide +kernel)
theorem pc_take_1 {L : Nat} {xs : Nat → Int32} : ∃ r i1 l1 r1 i2 l2 r2, xEv L xs 19 138 0 [.ref 0, .int 1, xmk] [] xhN (some (.int r)) (124, i1, l1, r1) ∧ xEv L xs 19 235 0 [.ref 86, .int 1, xmk] [] (124, i1, l1, r1) (some (.int r)) (124, i2, l2, r2) := xpair_s (n := 4000) (by decide +kernel)
theorem pc_take_2 {L : Nat} {xs : Nat → Int32} : ∃ r i1 l1 r1 i2 l2 r2, xEv L xs 19 138 0 [.ref 0, .int 2, xmk] [] xhN (some (.int r)) (124, i1, l1, r1) ∧ xEv L xs 19 235 0 [.ref 86, .int 2, xmk] [] (124, i1, l1, r1) (some (.int r)) (124, i2, l2, r2) := xpair_s (n := 4000) (by decide +kernel)
theorem pc_count_0 {L : Nat} {xs : Nat → Int32} : ∃ r i1 l1 r1 i2 l2 r2, xEv L xs 19 139 0 [.ref 0, .int 0] [] xhN (some (.int r)) (124, i1, l1, r1) ∧ xEv L xs 19 236 0 [.ref 86, .int 0] [] (124, i1, l1, r1) (some (.int r)) (124, i2, l2, r2) := xpair_s (n := 4000) (by decide +kernel)
theorem pc_count_1 {L : Nat} {xs : Nat → Int32} : ∃ r i1 l1 r1 i2 l2 r2, xEv L xs 19 139 0 [.ref 0, .int 1] [] xhN (some (.int r)) (124, i1, l1, r1) ∧ xEv L xs 19 236 0 [.ref 86, .int 1] [] (124, i1, l1, r1) (some (.int r)) (124, i2, l2, r2) := xpair_s (n := 4000) (by decide +kernel)
theorem pc_told_all : (List.range 80).all (fun w => xpair 4000 48 166 [.ref 0, .int (Int32.ofNat w), xmk] [.ref 86, .int (Int32.ofNat w), xmk]) = true := by decide +kernel
