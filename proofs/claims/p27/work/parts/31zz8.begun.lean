/-- a run begun, of both -/
theorem beg_D {np nn : Nat} {I : Nat → Nat → Int32} {J : Nat → Nat → Int64} {F : Nat → Int32} {a x : Int32} (n7 : np ≤ 7) (hx : x.toInt = np) (h6 : I 66 6 = (1 <<< (x &&& 31)) - 1) (h7 : J 66 7 = a.toInt64) (ha : 0 ≤ a.toInt) (hq : ∀ q, q < 4 → I 67 q = (if q < nn then F q else -1) ∧ I 68 q = 0 ∧ I 69 q = -1 ∧ I 70 q = -1) (r1 : J 122 0 = a.toInt64) (r2 : ∀ q, q < 7 → I 121 (2 + q) = 1) (r3 : ∀ q, q < 4 → I 121 (9 + q) = (if q < nn then F q else -1) ∧ I 121 (13 + q) = 0 ∧ I 121 (17 + q) = -1 ∧ I 121 (21 + q) = -1) : rnD 66 0 0 np nn I J := by
  obtain ⟨s0, s1⟩ := sd_64 ha
  refine rnS_G.mpr ⟨fun n hn => ?_, fun n h1 h2 => ?_, fun p hp => ?_, by rw [r1, h7], by rw [h7]; exact s0, by rw [h7]; exact s1⟩
  · obtain ⟨a1, a2, a3, a4⟩ := hq n hn
    obtain ⟨b1, b2, b3, b4⟩ := r3 n hn
    rw [a1, a2, a3, a4, b1, b2, b3, b4]
    exact ⟨rfl, rfl, rfl, rfl⟩
  · rw [(hq n h2).1, if_neg (by omega)]
  · rw [r2 p (by omega), h6, k_small hx (by omega), tb_low np (by omega) p hp]
    rfl
