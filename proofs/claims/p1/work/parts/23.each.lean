theorem x_iv {a : Int32} {z : Int} (h : a.toInt = z) {b : Int32} (hb : b.toInt = z) : a = b := Int32.toInt_inj.mp (h.trans hb.symm)
theorem pk_feed {L : Nat} {xs : Nat → Int32} (a1 : Int32) (a2 : Int32) (a3 : Int32) (a4 : Int32) (a5 : Int32) : ∃ r i1 l1 r1 i2 l2 r2, xEv L xs 19 14 0 [.ref 0, .int a1, .int a2, .int a3, .int a4, .int a5] [] xhN (some (.int r)) (124, i1, l1, r1) ∧ xEv L xs 19 145 0 [.ref 86, .int a1, .int a2, .int a3, .int a4, .int a5, xmk, xmk, xmk] [] (124, i1, l1, r1) (some (.int r)) (124, i2, l2, r2) := by
  exact ⟨_, _, _, _, _, _, _, px_feed_0, pm_feed_0⟩
theorem pk_end {L : Nat} {xs : Nat → Int32} (a1 : Int32) : ∃ r i1 l1 r1 i2 l2 r2, xEv L xs 19 16 0 [.ref 0, .int a1] [] xhN (some (.int r)) (124, i1, l1, r1) ∧ xEv L xs 19 146 0 [.ref 86, .int a1] [] (124, i1, l1, r1) (some (.int r)) (124, i2, l2, r2) := by
  rcases (show (a1.toInt < 0) ∨ (0 < a1.toInt) ∨ (a1.toInt = 0) by omega) with h1 | h1 | h1
  · exact ⟨_, _, _, _, _, _, _, px_end_0 h1, pm_end_0 h1⟩
  · exact ⟨_, _, _, _, _, _, _, px_end_1 h1, pm_end_1 h1⟩
  · exact ⟨_, _, _, _, _, _, _, px_end_2 h1, pm_end_2 h1⟩
theorem pk_village {L : Nat} {xs : Nat → Int32} : ∃ r i1 l1 r1 i2 l2 r2, xEv L xs 19 17 0 [.ref 0, xmk, xmk] [] xhN (some (.int r)) (124, i1, l1, r1) ∧ xEv L xs 19 148 0 [.ref 86, xmk] [] (124, i1, l1, r1) (some (.int r)) (124, i2, l2, r2) := pc_village
theorem pk_fault {L : Nat} {xs : Nat → Int32} (a1 : Int32) : ∃ r i1 l1 r1 i2 l2 r2, xEv L xs 19 47 0 [.ref 0, .int a1] [] xhN (some (.int r)) (124, i1, l1, r1) ∧ xEv L xs 19 147 0 [.ref 86, .int a1] [] (124, i1, l1, r1) (some (.int r)) (124, i2, l2, r2) := by
  by_cases h0 : a1.toInt = 0
  · rw [x_iv h0 (b := 0) (by decide)]; exact pc_fault_0
  · by_cases h1 : a1.toInt = 1
    · rw [x_iv h1 (b := 1) (by decide)]; exact pc_fault_1
    · exact ⟨_, _, _, _, _, _, _, px_fault_0 h0 h1, pm_fault_0 h0 h1⟩
theorem pk_told {L : Nat} {xs : Nat → Int32} (a1 : Int32) : ∃ r i1 l1 r1 i2 l2 r2, xEv L xs 19 48 0 [.ref 0, .int a1, xmk] [] xhN (some (.int r)) (124, i1, l1, r1) ∧ xEv L xs 19 166 0 [.ref 86, .int a1, xmk] [] (124, i1, l1, r1) (some (.int r)) (124, i2, l2, r2) := by
  rcases (show a1.toInt < 0 ∨ 80 ≤ a1.toInt ∨ (0 ≤ a1.toInt ∧ a1.toInt < 80) by omega) with h | h | h
  · exact ⟨_, _, _, _, _, _, _, px_told_0 h, pm_told_0 h⟩
  · exact ⟨_, _, _, _, _, _, _, px_told_1 h, pm_told_1 h⟩
  · obtain ⟨w, hw, rfl⟩ := nI_of (x := a1) (by rw [Int32.lt_iff_toInt_lt]; show ¬ a1.toInt < 0; omega)
    rw [nI_toInt hw] at h
    exact xpair_s (List.all_eq_true.mp pc_told_all w (List.mem_range.mpr (by omega)))
theorem pk_meeting {L : Nat} {xs : Nat → Int32} (a1 : Int32) (a2 : Int32) : ∃ r i1 l1 r1 i2 l2 r2, xEv L xs 19 51 0 [.ref 0, .int a1, .int a2] [] xhN (some (.int r)) (124, i1, l1, r1) ∧ xEv L xs 19 169 0 [.ref 86, .int a1, .int a2] [] (124, i1, l1, r1) (some (.int r)) (124, i2, l2, r2) := by
  rcases (show (a1.toInt < 0) ∨ (0 ≤ a1.toInt) by omega) with h1 | h1
  · exact ⟨_, _, _, _, _, _, _, px_meeting_0 h1, pm_meeting_0 h1⟩
  · exact ⟨_, _, _, _, _, _, _, px_meeting_1 h1, pm_meeting_1 h1⟩
theorem pk_time {L : Nat} {xs : Nat → Int32} (a1 : Int32) (a2 : Int32) : ∃ r i1 l1 r1 i2 l2 r2, xEv L xs 19 52 0 [.ref 0, .int a1, .int a2] [] xhN (some (.int r)) (124, i1, l1, r1) ∧ xEv L xs 19 170 0 [.ref 86, .int a1, .int a2] [] (124, i1, l1, r1) (some (.int r)) (124, i2, l2, r2) := by
  rcases (show (a1.toInt < 0) ∨ (0 ≤ a1.toInt) by omega) with h1 | h1
  · exact ⟨_, _, _, _, _, _, _, px_time_0 h1, pm_time_0 h1⟩
  · exact ⟨_, _, _, _, _, _, _, px_time_1 h1, pm_time_1 h1⟩
theorem pk_judge {L : Nat} {xs : Nat → Int32} : ∃ r i1 l1 r1 i2 l2 r2, xEv L xs 19 53 0 [.ref 0, xmk] [] xhN (some (.int r)) (124, i1, l1, r1) ∧ xEv L xs 19 172 0 [.ref 86, xmk, xmk] [] (124, i1, l1, r1) (some (.int r)) (124, i2, l2, r2) := pc_judge
theorem pk_judged {L : Nat} {xs : Nat → Int32} (a1 : Int32) (a2 : Int32) : ∃ r i1 l1 r1 i2 l2 r2, xEv L xs 19 62 0 [.ref 0, .int a1, .int a2] [] xhN (some (.int r)) (124, i1, l1, r1) ∧ xEv L xs 19 181 0 [.ref 86, .int a1, .int a2] [] (124, i1, l1, r1) (some (.int r)) (124, i2, l2, r2) := by
  rcases (show (a1.toInt < 0) ∨ (0 ≤ a1.toInt) by omega) with h1 | h1
  · exact ⟨_, _, _, _, _, _, _, px_judged_0 h1, pm_judged_0 h1⟩
  · exact ⟨_, _, _, _, _, _, _, px_judged_1 h1, pm_judged_1 h1⟩
theorem pk_soon {L : Nat} {xs : Nat → Int32} (a1 : Int32) (a2 : Int32) (a3 : Int32) (a4 : Int32) : ∃ r i1 l1 r1 i2 l2 r2, xEv L xs 19 63 0 [.ref 0, .int a1, .int a2, .int a3, .int a4] [] xhN (some (.int r)) (124, i1, l1, r1) ∧ xEv L xs 19 182 0 [.ref 86, .int a1, .int a2, .int a3, .int a4, xmk] [] (124, i1, l1, r1) (some (.int r)) (124, i2, l2, r2) := by
  rcases (show (a1.toInt < 0) ∨ (0 ≤ a1.toInt) by omega) with h1 | h1
  · exact ⟨_, _, _, _, _, _, _, px_soon_0 h1, pm_soon_0 h1⟩
  · exact ⟨_, _, _, _, _, _, _, px_soon_1 h1, pm_soon_1 h1⟩
theorem pk_surest {L : Nat} {xs : Nat → Int32} (a1 : Int32) (a2 : Int32) (a3 : Int32) (a4 : Int32) (a5 : Int32) (a6 : Int32) : ∃ r i1 l1 r1 i2 l2 r2, xEv L xs 19 68 0 [.ref 0, .int a1, .int a2, .int a3, .int a4, .int a5, .int a6, xmk] [] xhN (some (.int r)) (124, i1, l1, r1) ∧ xEv L xs 19 188 0 [.ref 86, .int a1, .int a2, .int a3, .int a4, .int a5, .int a6] [] (124, i1, l1, r1) (some (.int r)) (124, i2, l2, r2) := by
  rcases (show (a1.toInt < 0) ∨ (0 ≤ a1.toInt) by omega) with h1 | h1
  · exact ⟨_, _, _, _, _, _, _, px_surest_0 h1, pm_surest_0 h1⟩
  · exact ⟨_, _, _, _, _, _, _, px_surest_1 h1, pm_surest_1 h1⟩
theorem pk_bars {L : Nat} {xs : Nat → Int32} (a1 : Int32) (a2 : Int32) (a3 : Int32) (a4 : Int32) : ∃ r i1 l1 r1 i2 l2 r2, xEv L xs 19 82 0 [.ref 0, .int a1, .int a2, .int a3, .int a4, xmk, xmk, xmk] [] xhN (some (.int r)) (124, i1, l1, r1) ∧ xEv L xs 19 187 0 [.ref 86, .int a1, .int a2, .int a3, .int a4, xmk, xmk] [] (124, i1, l1, r1) (some (.int r)) (124, i2, l2, r2) := by
  rcases (show (a1.toInt < 0) ∨ (0 ≤ a1.toInt) by omega) with h1 | h1
  · exact ⟨_, _, _, _, _, _, _, px_bars_0 h1, pm_bars_0 h1⟩
  · exact ⟨_, _, _, _, _, _, _, px_bars_1 h1, pm_bars_1 h1⟩
theorem pk_all {L : Nat} {xs : Nat → Int32} (a1 : Int32) : ∃ r i1 l1 r1 i2 l2 r2, xEv L xs 19 83 0 [.ref 0, .int a1] [] xhN (some (.int r)) (124, i1, l1, r1) ∧ xEv L xs 19 198 0 [.ref 86, .int a1] [] (124, i1, l1, r1) (some (.int r)) (124, i2, l2, r2) := by
  by_cases h0 : a1.toInt = 0
  · rw [x_iv h0 (b := 0) (by decide)]; exact pc_all_0
  · by_cases h1 : a1.toInt = 1
    · rw [x_iv h1 (b := 1) (by decide)]; exact pc_all_1
    · exact ⟨_, _, _, _, _, _, _, px_all_0 h0 h1, pm_all_0 h0 h1⟩
theorem pk_together {L : Nat} {xs : Nat → Int32} (a1 : Int32) (a2 : Int32) : ∃ r i1 l1 r1 i2 l2 r2, xEv L xs 19 93 0 [.ref 0, .int a1, .int a2, xmk] [] xhN (some (.int r)) (124, i1, l1, r1) ∧ xEv L xs 19 208 0 [.ref 86, .int a1, .int a2, xmk, xmk, xmk, xmk, xmk] [] (124, i1, l1, r1) (some (.int r)) (124, i2, l2, r2) := by
  rcases (show (a1.toInt < 1) ∨ (1 ≤ a1.toInt) by omega) with h1 | h1
  · exact ⟨_, _, _, _, _, _, _, px_together_0 h1, pm_together_0 h1⟩
  · exact ⟨_, _, _, _, _, _, _, px_together_1 h1, pm_together_1 h1⟩
theorem pk_reply {L : Nat} {xs : Nat → Int32} (a1 : Int32) : ∃ r i1 l1 r1 i2 l2 r2, xEv L xs 19 95 0 [.ref 0, .int a1, xmk] [] xhN (some (.int r)) (124, i1, l1, r1) ∧ xEv L xs 19 210 0 [.ref 86, .int a1, xmk, xmk, xmk] [] (124, i1, l1, r1) (some (.int r)) (124, i2, l2, r2) := by
  rcases (show a1.toInt < 0 ∨ 0 < a1.toInt ∨ a1.toInt = 0 by omega) with h | h | h
  · exact ⟨_, _, _, _, _, _, _, px_reply_0 h, pm_reply_0 h⟩
  · exact ⟨_, _, _, _, _, _, _, px_reply_1 h, pm_reply_1 h⟩
  · rw [x_iv h (b := 0) (by decide)]; exact pc_reply_0
theorem pk_ring {L : Nat} {xs : Nat → Int32} (a1 : Int32) : ∃ r i1 l1 r1 i2 l2 r2, xEv L xs 19 100 0 [.ref 0, .int a1, xmk] [] xhN (some (.int r)) (124, i1, l1, r1) ∧ xEv L xs 19 212 0 [.ref 86, .int a1, xmk, xmk] [] (124, i1, l1, r1) (some (.int r)) (124, i2, l2, r2) := by
  rcases (show (a1.toInt < 0) ∨ (400 < a1.toInt) ∨ (0 ≤ a1.toInt ∧ a1.toInt ≤ 400) by omega) with h1 | h1 | ⟨h1, h2⟩
  · exact ⟨_, _, _, _, _, _, _, px_ring_0 h1, pm_ring_0 h1⟩
  · exact ⟨_, _, _, _, _, _, _, px_ring_1 h1, pm_ring_1 h1⟩
  · exact ⟨_, _, _, _, _, _, _, px_ring_2 h1 h2, pm_ring_2 h1 h2⟩
theorem pk_bestRing {L : Nat} {xs : Nat → Int32} (a1 : Int32) : ∃ r i1 l1 r1 i2 l2 r2, xEv L xs 19 109 0 [.ref 0, .int a1, xmk, xmk] [] xhN (some (.int r)) (124, i1, l1, r1) ∧ xEv L xs 19 214 0 [.ref 86, .int a1, xmk, xmk, xmk, xmk] [] (124, i1, l1, r1) (some (.int r)) (124, i2, l2, r2) := by
  rcases (show (a1.toInt < 1) ∨ (1 ≤ a1.toInt) by omega) with h1 | h1
  · exact ⟨_, _, _, _, _, _, _, px_bestRing_0 h1, pm_bestRing_0 h1⟩
  · exact ⟨_, _, _, _, _, _, _, px_bestRing_1 h1, pm_bestRing_1 h1⟩
theorem pk_where {L : Nat} {xs : Nat → Int32} (a1 : Int32) (a2 : Int32) (a3 : Int32) (a4 : Int32) (a5 : Int32) (a6 : Int32) : ∃ r i1 l1 r1 i2 l2 r2, xEv L xs 19 111 0 [.ref 0, .int a1, .int a2, .int a3, .int a4, .int a5, .int a6] [] xhN (some (.int r)) (124, i1, l1, r1) ∧ xEv L xs 19 215 0 [.ref 86, .int a1, .int a2, .int a3, .int a4, .int a5, .int a6] [] (124, i1, l1, r1) (some (.int r)) (124, i2, l2, r2) := by
  rcases (show a6.toInt < 0 ∨ 0 ≤ a6.toInt by omega) with h | h <;> rcases (show a1.toInt < 0 ∨ 0 ≤ a1.toInt by omega) with h2 | h2
  · exact ⟨_, _, _, _, _, _, _, px_where_0 h, pm_where_0 h2⟩
  · exact ⟨_, _, _, _, _, _, _, px_where_0 h, pm_where_1 h2⟩
  · exact ⟨_, _, _, _, _, _, _, px_where_1 h, pm_where_0 h2⟩
  · exact ⟨_, _, _, _, _, _, _, px_where_1 h, pm_where_1 h2⟩
theorem pk_ask {L : Nat} {xs : Nat → Int32} (a1 : Int32) (a2 : Int32) (a3 : Int32) (a4 : Int32) (a5 : Int32) : ∃ r i1 l1 r1 i2 l2 r2, xEv L xs 19 114 0 [.ref 0, .int a1, .int a2, .int a3, .int a4, .int a5, xmk, xmk] [] xhN (some (.int r)) (124, i1, l1, r1) ∧ xEv L xs 19 218 0 [.ref 86, .int a1, .int a2, .int a3, .int a4, .int a5, xmk, xmk] [] (124, i1, l1, r1) (some (.int r)) (124, i2, l2, r2) := by
  rcases (show (a1.toInt < 0) ∨ (0 ≤ a1.toInt) by omega) with h1 | h1
  · exact ⟨_, _, _, _, _, _, _, px_ask_0 h1, pm_ask_0 h1⟩
  · exact ⟨_, _, _, _, _, _, _, px_ask_1 h1, pm_ask_1 h1⟩
theorem pk_fight {L : Nat} {xs : Nat → Int32} (a1 : Int32) : ∃ r i1 l1 r1 i2 l2 r2, xEv L xs 19 115 0 [.ref 0, .int a1, xmk] [] xhN (some (.int r)) (124, i1, l1, r1) ∧ xEv L xs 19 219 0 [.ref 86, .int a1, xmk, xmk, xmk, xmk, xmk, xmk, xmk] [] (124, i1, l1, r1) (some (.int r)) (124, i2, l2, r2) := by
  rcases (show (a1.toInt < 0) ∨ (0 ≤ a1.toInt) by omega) with h1 | h1
  · exact ⟨_, _, _, _, _, _, _, px_fight_0 h1, pm_fight_0 h1⟩
  · exact ⟨_, _, _, _, _, _, _, px_fight_1 h1, pm_fight_1 h1⟩
theorem pk_believe {L : Nat} {xs : Nat → Int32} (a1 : Int32) : ∃ r i1 l1 r1 i2 l2 r2, xEv L xs 19 118 0 [.ref 0, .int a1] [] xhN (some (.int r)) (124, i1, l1, r1) ∧ xEv L xs 19 220 0 [.ref 86, .int a1] [] (124, i1, l1, r1) (some (.int r)) (124, i2, l2, r2) := by
  exact ⟨_, _, _, _, _, _, _, px_believe_0, pm_believe_0⟩
theorem pk_rule {L : Nat} {xs : Nat → Int32} (a1 : Int32) (a2 : Int32) (a3 : Int32) : ∃ r i1 l1 r1 i2 l2 r2, xEv L xs 19 119 0 [.ref 0, .int a1, .int a2, .int a3, xmk] [] xhN (some (.int r)) (124, i1, l1, r1) ∧ xEv L xs 19 221 0 [.ref 86, .int a1, .int a2, .int a3, xmk] [] (124, i1, l1, r1) (some (.int r)) (124, i2, l2, r2) := by
  rcases (show (a1.toInt < 0) ∨ (0 ≤ a1.toInt) by omega) with h1 | h1
  · exact ⟨_, _, _, _, _, _, _, px_rule_0 h1, pm_rule_0 h1⟩
  · exact ⟨_, _, _, _, _, _, _, px_rule_1 h1, pm_rule_1 h1⟩
theorem pk_begin {L : Nat} {xs : Nat → Int32} (a1 : Int32) : ∃ r i1 l1 r1 i2 l2 r2, xEv L xs 19 120 0 [.ref 0, .int a1] [] xhN (some (.int r)) (124, i1, l1, r1) ∧ xEv L xs 19 222 0 [.ref 86, .int a1, xmk] [] (124, i1, l1, r1) (some (.int r)) (124, i2, l2, r2) := by
  rcases (show (a1.toInt < 0) ∨ (0 ≤ a1.toInt) by omega) with h1 | h1
  · exact ⟨_, _, _, _, _, _, _, px_begin_0 h1, pm_begin_0 h1⟩
  · exact ⟨_, _, _, _, _, _, _, px_begin_1 h1, pm_begin_1 h1⟩
theorem pk_go {L : Nat} {xs : Nat → Int32} (a1 : Int32) : ∃ r i1 l1 r1 i2 l2 r2, xEv L xs 19 122 0 [.ref 0, .int a1, xmk] [] xhN (some (.int r)) (124, i1, l1, r1) ∧ xEv L xs 19 223 0 [.ref 86, .int a1, xmk] [] (124, i1, l1, r1) (some (.int r)) (124, i2, l2, r2) := by
  rcases (show (a1.toInt < 0) ∨ (64 < a1.toInt) ∨ (0 ≤ a1.toInt ∧ a1.toInt ≤ 64) by omega) with h1 | h1 | ⟨h1, h2⟩
  · exact ⟨_, _, _, _, _, _, _, px_go_0 h1, pm_go_0 h1⟩
  · exact ⟨_, _, _, _, _, _, _, px_go_1 h1, pm_go_1 h1⟩
  · exact ⟨_, _, _, _, _, _, _, px_go_2 h1 h2, pm_go_2 h1 h2⟩
theorem pk_now {L : Nat} {xs : Nat → Int32} (a1 : Int32) (a2 : Int32) : ∃ r i1 l1 r1 i2 l2 r2, xEv L xs 19 133 0 [.ref 0, .int a1, .int a2] [] xhN (some (.int r)) (124, i1, l1, r1) ∧ xEv L xs 19 231 0 [.ref 86, .int a1, .int a2] [] (124, i1, l1, r1) (some (.int r)) (124, i2, l2, r2) := by
  rcases (show (a1.toInt < 0) ∨ (0 ≤ a1.toInt) by omega) with h1 | h1
  · exact ⟨_, _, _, _, _, _, _, px_now_0 h1, pm_now_0 h1⟩
  · exact ⟨_, _, _, _, _, _, _, px_now_1 h1, pm_now_1 h1⟩
theorem pk_head {L : Nat} {xs : Nat → Int32} (a1 : Int32) (a2 : Int32) : ∃ r i1 l1 r1 i2 l2 r2, xEv L xs 19 134 0 [.ref 0, .int a1, .int a2] [] xhN (some (.int r)) (124, i1, l1, r1) ∧ xEv L xs 19 232 0 [.ref 86, .int a1, .int a2] [] (124, i1, l1, r1) (some (.int r)) (124, i2, l2, r2) := by
  rcases (show (a1.toInt < 0) ∨ (0 ≤ a1.toInt) by omega) with h1 | h1
  · exact ⟨_, _, _, _, _, _, _, px_head_0 h1, pm_head_0 h1⟩
  · exact ⟨_, _, _, _, _, _, _, px_head_1 h1, pm_head_1 h1⟩
theorem pk_keep {L : Nat} {xs : Nat → Int32} (a1 : Int32) : ∃ r i1 l1 r1 i2 l2 r2, xEv L xs 19 135 0 [.ref 0, .int a1, xmk] [] xhN (some (.int r)) (124, i1, l1, r1) ∧ xEv L xs 19 233 0 [.ref 86, .int a1, xmk] [] (124, i1, l1, r1) (some (.int r)) (124, i2, l2, r2) := by
  rcases (show (a1.toInt < 0) ∨ (2 < a1.toInt) ∨ (0 ≤ a1.toInt ∧ a1.toInt ≤ 2) by omega) with h1 | h1 | ⟨h1, h2⟩
  · exact ⟨_, _, _, _, _, _, _, px_keep_0 h1, pm_keep_0 h1⟩
  · exact ⟨_, _, _, _, _, _, _, px_keep_1 h1, pm_keep_1 h1⟩
  · exact ⟨_, _, _, _, _, _, _, px_keep_2 h1 h2, pm_keep_2 h1 h2⟩
theorem pk_take {L : Nat} {xs : Nat → Int32} (a1 : Int32) : ∃ r i1 l1 r1 i2 l2 r2, xEv L xs 19 138 0 [.ref 0, .int a1, xmk] [] xhN (some (.int r)) (124, i1, l1, r1) ∧ xEv L xs 19 235 0 [.ref 86, .int a1, xmk] [] (124, i1, l1, r1) (some (.int r)) (124, i2, l2, r2) := by
  rcases (show a1.toInt < 0 ∨ 2 < a1.toInt ∨ a1.toInt = 0 ∨ a1.toInt = 1 ∨ a1.toInt = 2 by omega) with h | h | h | h | h
  · exact ⟨_, _, _, _, _, _, _, px_take_0 h, pm_take_0 h⟩
  · exact ⟨_, _, _, _, _, _, _, px_take_1 h, pm_take_1 h⟩
  · rw [x_iv h (b := 0) (by decide)]; exact pc_take_0
  · rw [x_iv h (b := 1) (by decide)]; exact pc_take_1
  · rw [x_iv h (b := 2) (by decide)]; exact pc_take_2
theorem pk_count {L : Nat} {xs : Nat → Int32} (a1 : Int32) : ∃ r i1 l1 r1 i2 l2 r2, xEv L xs 19 139 0 [.ref 0, .int a1] [] xhN (some (.int r)) (124, i1, l1, r1) ∧ xEv L xs 19 236 0 [.ref 86, .int a1] [] (124, i1, l1, r1) (some (.int r)) (124, i2, l2, r2) := by
  by_cases h0 : a1.toInt = 0
  · rw [x_iv h0 (b := 0) (by decide)]; exact pc_count_0
  · by_cases h1 : a1.toInt = 1
    · rw [x_iv h1 (b := 1) (by decide)]; exact pc_count_1
    · exact ⟨_, _, _, _, _, _, _, px_count_0 h0 h1, pm_count_0 h0 h1⟩
