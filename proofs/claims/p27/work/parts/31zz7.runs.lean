/-- what a run of the class's cell c holds, at the reference's place o, its seed s -/
def rnD (c o s np nn : Nat) (I : Nat → Nat → Int32) (J : Nat → Nat → Int64) : Prop := (∀ n, n < 4 → I (c + 1) n = I 121 (o + 9 + n) ∧ I (c + 2) n = I 121 (o + 13 + n) ∧ I (c + 3) n = I 121 (o + 17 + n) ∧ I (c + 4) n = I 121 (o + 21 + n)) ∧ (∀ n, nn ≤ n → n < 4 → I (c + 1) n = -1) ∧ (∀ p, p < np → I 121 (o + 2 + p) = if tb (I c 6) p then 1 else 0) ∧ J 122 s = J c 7 ∧ 0 ≤ (J c 7).toInt ∧ (J c 7).toInt < 2147483648
/-- no run in both, or the same; f the reference's flag -/
def rnS (c o s : Nat) (f : Int32) (np nn : Nat) (I : Nat → Nat → Int32) (J : Nat → Nat → Int64) : Prop := (I c 4 = 0 ∧ f = 0) ∨ (I c 4 = 1 ∧ f = 1 ∧ I 121 o = 1 ∧ I c 5 = I 121 (o + 1) ∧ rnD c o s np nn I J)
theorem rnD_m {c a o o' s s' np nn : Nat} {I I1 : Nat → Nat → Int32} {J J1 : Nat → Nat → Int64} (n7 : np ≤ 7) (h : rnD a o' s' np nn I J) (e : rnEq c a I1 I J1 J) (e1 : ∀ q, q < 25 → I1 121 (o + q) = I 121 (o' + q)) (e2 : J1 122 s = J 122 s') : rnD c o s np nn I1 J1 := by
  obtain ⟨g1, g2, g3, g4, g5, g6⟩ := h
  obtain ⟨-, -, e6, e7, e8⟩ := e
  have at' : ∀ x y, x + y < 25 → I1 121 (o + x + y) = I 121 (o' + x + y) := fun x y h => by
    rw [Nat.add_assoc o x y, Nat.add_assoc o' x y]
    exact e1 (x + y) h
  refine ⟨fun n hn => ?_, fun n h1 h2 => ?_, fun p hp => ?_, by rw [e2, e7]; exact g4, by rw [e7]; exact g5, by rw [e7]; exact g6⟩
  · obtain ⟨a1, a2, a3, a4⟩ := e8 n hn
    rw [a1, a2, a3, a4, at' 9 n (by omega), at' 13 n (by omega), at' 17 n (by omega), at' 21 n (by omega)]
    exact g1 n hn
  · rw [(e8 n h2).1]
    exact g2 n h1 h2
  · rw [at' 2 p (by omega), e6]
    exact g3 p hp
theorem rnS_m {c a o o' s s' np nn : Nat} {f f1 : Int32} {I I1 : Nat → Nat → Int32} {J J1 : Nat → Nat → Int64} (n7 : np ≤ 7) (h : rnS a o' s' f np nn I J) (e : rnEq c a I1 I J1 J) (e1 : ∀ q, q < 25 → I1 121 (o + q) = I 121 (o' + q)) (e2 : J1 122 s = J 122 s') (ef : f1 = f) : rnS c o s f1 np nn I1 J1 := by
  rcases h with ⟨h1, h2⟩ | ⟨h1, h2, h3, h4, h5⟩
  · exact Or.inl ⟨by rw [e.1]; exact h1, by rw [ef]; exact h2⟩
  · exact Or.inr ⟨by rw [e.1]; exact h1, by rw [ef]; exact h2, (e1 0 (by omega)).trans h3, by rw [e.2.1, e1 1 (by omega)]; exact h4, rnD_m n7 h5 e e1 e2⟩
theorem rnS_G {np nn : Nat} {I : Nat → Nat → Int32} {J : Nat → Nat → Int64} : rnD 66 0 0 np nn I J ↔ gR np nn I I J J := by
  unfold rnD gR
  refine ⟨fun h => ⟨fun n hn => ?_, h.2.1, fun p hp => ?_, h.2.2.2⟩, fun h => ⟨fun n hn => ?_, h.2.1, fun p hp => ?_, h.2.2.2⟩⟩
  · have := h.1 n hn
    rw [Nat.zero_add, Nat.zero_add, Nat.zero_add, Nat.zero_add] at this
    exact this
  · have := h.2.2.1 p hp
    rw [Nat.zero_add] at this
    exact this
  · rw [Nat.zero_add, Nat.zero_add, Nat.zero_add, Nat.zero_add]
    exact h.1 n hn
  · rw [Nat.zero_add]
    exact h.2.2.1 p hp
theorem tb_low : ∀ n : Nat, n < 8 → ∀ p : Nat, p < n → tb ((1 <<< (Int32.ofNat n &&& 31)) - 1) p = true := by decide +kernel
theorem sd_64 {a : Int32} (h : 0 ≤ a.toInt) : 0 ≤ (a.toInt64).toInt ∧ (a.toInt64).toInt < 2147483648 := by
  have e : (a.toInt64).toInt = a.toInt := Int32.toInt_toInt64 a
  have := Int32.toInt_lt a
  omega
