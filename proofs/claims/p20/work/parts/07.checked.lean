theorem xck_use {j a n pc : Nat} {q : xQ} (h : xck j a n = true) (h1 : a ≤ pc) (h2 : pc < a + n) (hq : xins j pc = some q) : xok j pc q = true := by
  have h3 := List.all_eq_true.mp h pc (List.mem_range'_1.mpr ⟨h1, h2⟩)
  rw [hq] at h3
  exact h3
theorem xkk0 {pc : Nat} {q : xQ} (hq : xins 0 pc = some q) : xok 0 pc q = true := by
  by_cases h : pc < 1143
  · by_cases q0 : pc < 120
    · exact xck_use xk0_0 (by omega) (by omega) hq
    by_cases q120 : pc < 240
    · exact xck_use xk0_120 (by omega) (by omega) hq
    by_cases q240 : pc < 360
    · exact xck_use xk0_240 (by omega) (by omega) hq
    by_cases q360 : pc < 480
    · exact xck_use xk0_360 (by omega) (by omega) hq
    by_cases q480 : pc < 600
    · exact xck_use xk0_480 (by omega) (by omega) hq
    by_cases q600 : pc < 720
    · exact xck_use xk0_600 (by omega) (by omega) hq
    by_cases q720 : pc < 840
    · exact xck_use xk0_720 (by omega) (by omega) hq
    by_cases q840 : pc < 960
    · exact xck_use xk0_840 (by omega) (by omega) hq
    by_cases q960 : pc < 1080
    · exact xck_use xk0_960 (by omega) (by omega) hq
    exact xck_use xk0_1080 (by omega) (by omega) hq
  · have e : xins 0 pc = (bif Nat.ble 1143 pc then none else _) := rfl
    rw [e, Nat.ble_eq.mpr (Nat.not_lt.mp h)] at hq
    cases hq
theorem xkk1 {pc : Nat} {q : xQ} (hq : xins 1 pc = some q) : xok 1 pc q = true := by
  by_cases h : pc < 127
  · by_cases q0 : pc < 120
    · exact xck_use xk1_0 (by omega) (by omega) hq
    exact xck_use xk1_120 (by omega) (by omega) hq
  · have e : xins 1 pc = (bif Nat.ble 127 pc then none else _) := rfl
    rw [e, Nat.ble_eq.mpr (Nat.not_lt.mp h)] at hq
    cases hq
theorem xkk2 {pc : Nat} {q : xQ} (hq : xins 2 pc = some q) : xok 2 pc q = true := by
  by_cases h : pc < 14
  · exact xck_use xk2_0 (by omega) (by omega) hq
  · have e : xins 2 pc = (bif Nat.ble 14 pc then none else _) := rfl
    rw [e, Nat.ble_eq.mpr (Nat.not_lt.mp h)] at hq
    cases hq
theorem xkk3 {pc : Nat} {q : xQ} (hq : xins 3 pc = some q) : xok 3 pc q = true := by
  by_cases h : pc < 114
  · exact xck_use xk3_0 (by omega) (by omega) hq
  · have e : xins 3 pc = (bif Nat.ble 114 pc then none else _) := rfl
    rw [e, Nat.ble_eq.mpr (Nat.not_lt.mp h)] at hq
    cases hq
theorem xkk4 {pc : Nat} {q : xQ} (hq : xins 4 pc = some q) : xok 4 pc q = true := by
  by_cases h : pc < 45
  · exact xck_use xk4_0 (by omega) (by omega) hq
  · have e : xins 4 pc = (bif Nat.ble 45 pc then none else _) := rfl
    rw [e, Nat.ble_eq.mpr (Nat.not_lt.mp h)] at hq
    cases hq
theorem xkk5 {pc : Nat} {q : xQ} (hq : xins 5 pc = some q) : xok 5 pc q = true := by
  by_cases h : pc < 20
  · exact xck_use xk5_0 (by omega) (by omega) hq
  · have e : xins 5 pc = (bif Nat.ble 20 pc then none else _) := rfl
    rw [e, Nat.ble_eq.mpr (Nat.not_lt.mp h)] at hq
    cases hq
theorem xkk6 {pc : Nat} {q : xQ} (hq : xins 6 pc = some q) : xok 6 pc q = true := by
  by_cases h : pc < 37
  · exact xck_use xk6_0 (by omega) (by omega) hq
  · have e : xins 6 pc = (bif Nat.ble 37 pc then none else _) := rfl
    rw [e, Nat.ble_eq.mpr (Nat.not_lt.mp h)] at hq
    cases hq
theorem xkk7 {pc : Nat} {q : xQ} (hq : xins 7 pc = some q) : xok 7 pc q = true := by
  by_cases h : pc < 26
  · exact xck_use xk7_0 (by omega) (by omega) hq
  · have e : xins 7 pc = (bif Nat.ble 26 pc then none else _) := rfl
    rw [e, Nat.ble_eq.mpr (Nat.not_lt.mp h)] at hq
    cases hq
theorem xkk8 {pc : Nat} {q : xQ} (hq : xins 8 pc = some q) : xok 8 pc q = true := by
  by_cases h : pc < 19
  · exact xck_use xk8_0 (by omega) (by omega) hq
  · have e : xins 8 pc = (bif Nat.ble 19 pc then none else _) := rfl
    rw [e, Nat.ble_eq.mpr (Nat.not_lt.mp h)] at hq
    cases hq
theorem xkk9 {pc : Nat} {q : xQ} (hq : xins 9 pc = some q) : xok 9 pc q = true := by
  by_cases h : pc < 13
  · exact xck_use xk9_0 (by omega) (by omega) hq
  · have e : xins 9 pc = (bif Nat.ble 13 pc then none else _) := rfl
    rw [e, Nat.ble_eq.mpr (Nat.not_lt.mp h)] at hq
    cases hq
theorem xkk10 {pc : Nat} {q : xQ} (hq : xins 10 pc = some q) : xok 10 pc q = true := by
  by_cases h : pc < 48
  · exact xck_use xk10_0 (by omega) (by omega) hq
  · have e : xins 10 pc = (bif Nat.ble 48 pc then none else _) := rfl
    rw [e, Nat.ble_eq.mpr (Nat.not_lt.mp h)] at hq
    cases hq
theorem xkk11 {pc : Nat} {q : xQ} (hq : xins 11 pc = some q) : xok 11 pc q = true := by
  by_cases h : pc < 78
  · exact xck_use xk11_0 (by omega) (by omega) hq
  · have e : xins 11 pc = (bif Nat.ble 78 pc then none else _) := rfl
    rw [e, Nat.ble_eq.mpr (Nat.not_lt.mp h)] at hq
    cases hq
theorem xkk12 {pc : Nat} {q : xQ} (hq : xins 12 pc = some q) : xok 12 pc q = true := by
  by_cases h : pc < 33
  · exact xck_use xk12_0 (by omega) (by omega) hq
  · have e : xins 12 pc = (bif Nat.ble 33 pc then none else _) := rfl
    rw [e, Nat.ble_eq.mpr (Nat.not_lt.mp h)] at hq
    cases hq
theorem xkk13 {pc : Nat} {q : xQ} (hq : xins 13 pc = some q) : xok 13 pc q = true := by
  by_cases h : pc < 21
  · exact xck_use xk13_0 (by omega) (by omega) hq
  · have e : xins 13 pc = (bif Nat.ble 21 pc then none else _) := rfl
    rw [e, Nat.ble_eq.mpr (Nat.not_lt.mp h)] at hq
    cases hq
theorem xkk14 {pc : Nat} {q : xQ} (hq : xins 14 pc = some q) : xok 14 pc q = true := by
  by_cases h : pc < 66
  · exact xck_use xk14_0 (by omega) (by omega) hq
  · have e : xins 14 pc = (bif Nat.ble 66 pc then none else _) := rfl
    rw [e, Nat.ble_eq.mpr (Nat.not_lt.mp h)] at hq
    cases hq
theorem xkk15 {pc : Nat} {q : xQ} (hq : xins 15 pc = some q) : xok 15 pc q = true := by
  by_cases h : pc < 59
  · exact xck_use xk15_0 (by omega) (by omega) hq
  · have e : xins 15 pc = (bif Nat.ble 59 pc then none else _) := rfl
    rw [e, Nat.ble_eq.mpr (Nat.not_lt.mp h)] at hq
    cases hq
theorem xkk16 {pc : Nat} {q : xQ} (hq : xins 16 pc = some q) : xok 16 pc q = true := by
  by_cases h : pc < 27
  · exact xck_use xk16_0 (by omega) (by omega) hq
  · have e : xins 16 pc = (bif Nat.ble 27 pc then none else _) := rfl
    rw [e, Nat.ble_eq.mpr (Nat.not_lt.mp h)] at hq
    cases hq
theorem xkk17 {pc : Nat} {q : xQ} (hq : xins 17 pc = some q) : xok 17 pc q = true := by
  by_cases h : pc < 77
  · exact xck_use xk17_0 (by omega) (by omega) hq
  · have e : xins 17 pc = (bif Nat.ble 77 pc then none else _) := rfl
    rw [e, Nat.ble_eq.mpr (Nat.not_lt.mp h)] at hq
    cases hq
theorem xkk18 {pc : Nat} {q : xQ} (hq : xins 18 pc = some q) : xok 18 pc q = true := by
  by_cases h : pc < 161
  · by_cases q0 : pc < 120
    · exact xck_use xk18_0 (by omega) (by omega) hq
    exact xck_use xk18_120 (by omega) (by omega) hq
  · have e : xins 18 pc = (bif Nat.ble 161 pc then none else _) := rfl
    rw [e, Nat.ble_eq.mpr (Nat.not_lt.mp h)] at hq
    cases hq
theorem xkk19 {pc : Nat} {q : xQ} (hq : xins 19 pc = some q) : xok 19 pc q = true := by
  by_cases h : pc < 29
  · exact xck_use xk19_0 (by omega) (by omega) hq
  · have e : xins 19 pc = (bif Nat.ble 29 pc then none else _) := rfl
    rw [e, Nat.ble_eq.mpr (Nat.not_lt.mp h)] at hq
    cases hq
theorem xkk20 {pc : Nat} {q : xQ} (hq : xins 20 pc = some q) : xok 20 pc q = true := by
  by_cases h : pc < 10
  · exact xck_use xk20_0 (by omega) (by omega) hq
  · have e : xins 20 pc = (bif Nat.ble 10 pc then none else _) := rfl
    rw [e, Nat.ble_eq.mpr (Nat.not_lt.mp h)] at hq
    cases hq
theorem xkk21 {pc : Nat} {q : xQ} (hq : xins 21 pc = some q) : xok 21 pc q = true := by
  by_cases h : pc < 201
  · by_cases q0 : pc < 120
    · exact xck_use xk21_0 (by omega) (by omega) hq
    exact xck_use xk21_120 (by omega) (by omega) hq
  · have e : xins 21 pc = (bif Nat.ble 201 pc then none else _) := rfl
    rw [e, Nat.ble_eq.mpr (Nat.not_lt.mp h)] at hq
    cases hq
theorem xkk22 {pc : Nat} {q : xQ} (hq : xins 22 pc = some q) : xok 22 pc q = true := by
  by_cases h : pc < 32
  · exact xck_use xk22_0 (by omega) (by omega) hq
  · have e : xins 22 pc = (bif Nat.ble 32 pc then none else _) := rfl
    rw [e, Nat.ble_eq.mpr (Nat.not_lt.mp h)] at hq
    cases hq
theorem xkk23 {pc : Nat} {q : xQ} (hq : xins 23 pc = some q) : xok 23 pc q = true := by
  by_cases h : pc < 61
  · exact xck_use xk23_0 (by omega) (by omega) hq
  · have e : xins 23 pc = (bif Nat.ble 61 pc then none else _) := rfl
    rw [e, Nat.ble_eq.mpr (Nat.not_lt.mp h)] at hq
    cases hq
theorem xkk24 {pc : Nat} {q : xQ} (hq : xins 24 pc = some q) : xok 24 pc q = true := by
  by_cases h : pc < 36
  · exact xck_use xk24_0 (by omega) (by omega) hq
  · have e : xins 24 pc = (bif Nat.ble 36 pc then none else _) := rfl
    rw [e, Nat.ble_eq.mpr (Nat.not_lt.mp h)] at hq
    cases hq
theorem xkk25 {pc : Nat} {q : xQ} (hq : xins 25 pc = some q) : xok 25 pc q = true := by
  by_cases h : pc < 54
  · exact xck_use xk25_0 (by omega) (by omega) hq
  · have e : xins 25 pc = (bif Nat.ble 54 pc then none else _) := rfl
    rw [e, Nat.ble_eq.mpr (Nat.not_lt.mp h)] at hq
    cases hq
theorem xkk26 {pc : Nat} {q : xQ} (hq : xins 26 pc = some q) : xok 26 pc q = true := by
  by_cases h : pc < 79
  · exact xck_use xk26_0 (by omega) (by omega) hq
  · have e : xins 26 pc = (bif Nat.ble 79 pc then none else _) := rfl
    rw [e, Nat.ble_eq.mpr (Nat.not_lt.mp h)] at hq
    cases hq
theorem xkk27 {pc : Nat} {q : xQ} (hq : xins 27 pc = some q) : xok 27 pc q = true := by
  by_cases h : pc < 24
  · exact xck_use xk27_0 (by omega) (by omega) hq
  · have e : xins 27 pc = (bif Nat.ble 24 pc then none else _) := rfl
    rw [e, Nat.ble_eq.mpr (Nat.not_lt.mp h)] at hq
    cases hq
theorem xkk28 {pc : Nat} {q : xQ} (hq : xins 28 pc = some q) : xok 28 pc q = true := by
  by_cases h : pc < 42
  · exact xck_use xk28_0 (by omega) (by omega) hq
  · have e : xins 28 pc = (bif Nat.ble 42 pc then none else _) := rfl
    rw [e, Nat.ble_eq.mpr (Nat.not_lt.mp h)] at hq
    cases hq
theorem xkk29 {pc : Nat} {q : xQ} (hq : xins 29 pc = some q) : xok 29 pc q = true := by
  by_cases h : pc < 40
  · exact xck_use xk29_0 (by omega) (by omega) hq
  · have e : xins 29 pc = (bif Nat.ble 40 pc then none else _) := rfl
    rw [e, Nat.ble_eq.mpr (Nat.not_lt.mp h)] at hq
    cases hq
theorem xkk30 {pc : Nat} {q : xQ} (hq : xins 30 pc = some q) : xok 30 pc q = true := by
  by_cases h : pc < 28
  · exact xck_use xk30_0 (by omega) (by omega) hq
  · have e : xins 30 pc = (bif Nat.ble 28 pc then none else _) := rfl
    rw [e, Nat.ble_eq.mpr (Nat.not_lt.mp h)] at hq
    cases hq
theorem xkk31 {pc : Nat} {q : xQ} (hq : xins 31 pc = some q) : xok 31 pc q = true := by
  by_cases h : pc < 56
  · exact xck_use xk31_0 (by omega) (by omega) hq
  · have e : xins 31 pc = (bif Nat.ble 56 pc then none else _) := rfl
    rw [e, Nat.ble_eq.mpr (Nat.not_lt.mp h)] at hq
    cases hq
theorem xkk32 {pc : Nat} {q : xQ} (hq : xins 32 pc = some q) : xok 32 pc q = true := by
  by_cases h : pc < 66
  · exact xck_use xk32_0 (by omega) (by omega) hq
  · have e : xins 32 pc = (bif Nat.ble 66 pc then none else _) := rfl
    rw [e, Nat.ble_eq.mpr (Nat.not_lt.mp h)] at hq
    cases hq
theorem xkk33 {pc : Nat} {q : xQ} (hq : xins 33 pc = some q) : xok 33 pc q = true := by
  by_cases h : pc < 15
  · exact xck_use xk33_0 (by omega) (by omega) hq
  · have e : xins 33 pc = (bif Nat.ble 15 pc then none else _) := rfl
    rw [e, Nat.ble_eq.mpr (Nat.not_lt.mp h)] at hq
    cases hq
theorem xkk34 {pc : Nat} {q : xQ} (hq : xins 34 pc = some q) : xok 34 pc q = true := by
  by_cases h : pc < 70
  · exact xck_use xk34_0 (by omega) (by omega) hq
  · have e : xins 34 pc = (bif Nat.ble 70 pc then none else _) := rfl
    rw [e, Nat.ble_eq.mpr (Nat.not_lt.mp h)] at hq
    cases hq
theorem xkk35 {pc : Nat} {q : xQ} (hq : xins 35 pc = some q) : xok 35 pc q = true := by
  by_cases h : pc < 38
  · exact xck_use xk35_0 (by omega) (by omega) hq
  · have e : xins 35 pc = (bif Nat.ble 38 pc then none else _) := rfl
    rw [e, Nat.ble_eq.mpr (Nat.not_lt.mp h)] at hq
    cases hq
theorem xkk36 {pc : Nat} {q : xQ} (hq : xins 36 pc = some q) : xok 36 pc q = true := by
  by_cases h : pc < 60
  · exact xck_use xk36_0 (by omega) (by omega) hq
  · have e : xins 36 pc = (bif Nat.ble 60 pc then none else _) := rfl
    rw [e, Nat.ble_eq.mpr (Nat.not_lt.mp h)] at hq
    cases hq
theorem xkk37 {pc : Nat} {q : xQ} (hq : xins 37 pc = some q) : xok 37 pc q = true := by
  by_cases h : pc < 99
  · exact xck_use xk37_0 (by omega) (by omega) hq
  · have e : xins 37 pc = (bif Nat.ble 99 pc then none else _) := rfl
    rw [e, Nat.ble_eq.mpr (Nat.not_lt.mp h)] at hq
    cases hq
theorem xkk38 {pc : Nat} {q : xQ} (hq : xins 38 pc = some q) : xok 38 pc q = true := by
  by_cases h : pc < 35
  · exact xck_use xk38_0 (by omega) (by omega) hq
  · have e : xins 38 pc = (bif Nat.ble 35 pc then none else _) := rfl
    rw [e, Nat.ble_eq.mpr (Nat.not_lt.mp h)] at hq
    cases hq
theorem xkk39 {pc : Nat} {q : xQ} (hq : xins 39 pc = some q) : xok 39 pc q = true := by
  by_cases h : pc < 18
  · exact xck_use xk39_0 (by omega) (by omega) hq
  · have e : xins 39 pc = (bif Nat.ble 18 pc then none else _) := rfl
    rw [e, Nat.ble_eq.mpr (Nat.not_lt.mp h)] at hq
    cases hq
theorem xkk40 {pc : Nat} {q : xQ} (hq : xins 40 pc = some q) : xok 40 pc q = true := by
  by_cases h : pc < 72
  · exact xck_use xk40_0 (by omega) (by omega) hq
  · have e : xins 40 pc = (bif Nat.ble 72 pc then none else _) := rfl
    rw [e, Nat.ble_eq.mpr (Nat.not_lt.mp h)] at hq
    cases hq
theorem xkk41 {pc : Nat} {q : xQ} (hq : xins 41 pc = some q) : xok 41 pc q = true := by
  by_cases h : pc < 108
  · exact xck_use xk41_0 (by omega) (by omega) hq
  · have e : xins 41 pc = (bif Nat.ble 108 pc then none else _) := rfl
    rw [e, Nat.ble_eq.mpr (Nat.not_lt.mp h)] at hq
    cases hq
theorem xkk42 {pc : Nat} {q : xQ} (hq : xins 42 pc = some q) : xok 42 pc q = true := by
  by_cases h : pc < 44
  · exact xck_use xk42_0 (by omega) (by omega) hq
  · have e : xins 42 pc = (bif Nat.ble 44 pc then none else _) := rfl
    rw [e, Nat.ble_eq.mpr (Nat.not_lt.mp h)] at hq
    cases hq
theorem xkk43 {pc : Nat} {q : xQ} (hq : xins 43 pc = some q) : xok 43 pc q = true := by
  by_cases h : pc < 118
  · exact xck_use xk43_0 (by omega) (by omega) hq
  · have e : xins 43 pc = (bif Nat.ble 118 pc then none else _) := rfl
    rw [e, Nat.ble_eq.mpr (Nat.not_lt.mp h)] at hq
    cases hq
theorem xkk44 {pc : Nat} {q : xQ} (hq : xins 44 pc = some q) : xok 44 pc q = true := by
  by_cases h : pc < 73
  · exact xck_use xk44_0 (by omega) (by omega) hq
  · have e : xins 44 pc = (bif Nat.ble 73 pc then none else _) := rfl
    rw [e, Nat.ble_eq.mpr (Nat.not_lt.mp h)] at hq
    cases hq
theorem xkk45 {pc : Nat} {q : xQ} (hq : xins 45 pc = some q) : xok 45 pc q = true := by
  by_cases h : pc < 35
  · exact xck_use xk45_0 (by omega) (by omega) hq
  · have e : xins 45 pc = (bif Nat.ble 35 pc then none else _) := rfl
    rw [e, Nat.ble_eq.mpr (Nat.not_lt.mp h)] at hq
    cases hq
theorem xkk46 {pc : Nat} {q : xQ} (hq : xins 46 pc = some q) : xok 46 pc q = true := by
  by_cases h : pc < 41
  · exact xck_use xk46_0 (by omega) (by omega) hq
  · have e : xins 46 pc = (bif Nat.ble 41 pc then none else _) := rfl
    rw [e, Nat.ble_eq.mpr (Nat.not_lt.mp h)] at hq
    cases hq
theorem xkk47 {pc : Nat} {q : xQ} (hq : xins 47 pc = some q) : xok 47 pc q = true := by
  by_cases h : pc < 46
  · exact xck_use xk47_0 (by omega) (by omega) hq
  · have e : xins 47 pc = (bif Nat.ble 46 pc then none else _) := rfl
    rw [e, Nat.ble_eq.mpr (Nat.not_lt.mp h)] at hq
    cases hq
theorem xkk48 {pc : Nat} {q : xQ} (hq : xins 48 pc = some q) : xok 48 pc q = true := by
  by_cases h : pc < 201
  · by_cases q0 : pc < 120
    · exact xck_use xk48_0 (by omega) (by omega) hq
    exact xck_use xk48_120 (by omega) (by omega) hq
  · have e : xins 48 pc = (bif Nat.ble 201 pc then none else _) := rfl
    rw [e, Nat.ble_eq.mpr (Nat.not_lt.mp h)] at hq
    cases hq
theorem xkk49 {pc : Nat} {q : xQ} (hq : xins 49 pc = some q) : xok 49 pc q = true := by
  by_cases h : pc < 69
  · exact xck_use xk49_0 (by omega) (by omega) hq
  · have e : xins 49 pc = (bif Nat.ble 69 pc then none else _) := rfl
    rw [e, Nat.ble_eq.mpr (Nat.not_lt.mp h)] at hq
    cases hq
theorem xkk50 {pc : Nat} {q : xQ} (hq : xins 50 pc = some q) : xok 50 pc q = true := by
  by_cases h : pc < 19
  · exact xck_use xk50_0 (by omega) (by omega) hq
  · have e : xins 50 pc = (bif Nat.ble 19 pc then none else _) := rfl
    rw [e, Nat.ble_eq.mpr (Nat.not_lt.mp h)] at hq
    cases hq
theorem xkk51 {pc : Nat} {q : xQ} (hq : xins 51 pc = some q) : xok 51 pc q = true := by
  by_cases h : pc < 99
  · exact xck_use xk51_0 (by omega) (by omega) hq
  · have e : xins 51 pc = (bif Nat.ble 99 pc then none else _) := rfl
    rw [e, Nat.ble_eq.mpr (Nat.not_lt.mp h)] at hq
    cases hq
theorem xkk52 {pc : Nat} {q : xQ} (hq : xins 52 pc = some q) : xok 52 pc q = true := by
  by_cases h : pc < 81
  · exact xck_use xk52_0 (by omega) (by omega) hq
  · have e : xins 52 pc = (bif Nat.ble 81 pc then none else _) := rfl
    rw [e, Nat.ble_eq.mpr (Nat.not_lt.mp h)] at hq
    cases hq
theorem xkk53 {pc : Nat} {q : xQ} (hq : xins 53 pc = some q) : xok 53 pc q = true := by
  by_cases h : pc < 44
  · exact xck_use xk53_0 (by omega) (by omega) hq
  · have e : xins 53 pc = (bif Nat.ble 44 pc then none else _) := rfl
    rw [e, Nat.ble_eq.mpr (Nat.not_lt.mp h)] at hq
    cases hq
theorem xkk54 {pc : Nat} {q : xQ} (hq : xins 54 pc = some q) : xok 54 pc q = true := by
  by_cases h : pc < 109
  · exact xck_use xk54_0 (by omega) (by omega) hq
  · have e : xins 54 pc = (bif Nat.ble 109 pc then none else _) := rfl
    rw [e, Nat.ble_eq.mpr (Nat.not_lt.mp h)] at hq
    cases hq
theorem xkk55 {pc : Nat} {q : xQ} (hq : xins 55 pc = some q) : xok 55 pc q = true := by
  by_cases h : pc < 32
  · exact xck_use xk55_0 (by omega) (by omega) hq
  · have e : xins 55 pc = (bif Nat.ble 32 pc then none else _) := rfl
    rw [e, Nat.ble_eq.mpr (Nat.not_lt.mp h)] at hq
    cases hq
theorem xkk56 {pc : Nat} {q : xQ} (hq : xins 56 pc = some q) : xok 56 pc q = true := by
  by_cases h : pc < 109
  · exact xck_use xk56_0 (by omega) (by omega) hq
  · have e : xins 56 pc = (bif Nat.ble 109 pc then none else _) := rfl
    rw [e, Nat.ble_eq.mpr (Nat.not_lt.mp h)] at hq
    cases hq
theorem xkk57 {pc : Nat} {q : xQ} (hq : xins 57 pc = some q) : xok 57 pc q = true := by
  by_cases h : pc < 44
  · exact xck_use xk57_0 (by omega) (by omega) hq
  · have e : xins 57 pc = (bif Nat.ble 44 pc then none else _) := rfl
    rw [e, Nat.ble_eq.mpr (Nat.not_lt.mp h)] at hq
    cases hq
theorem xkk58 {pc : Nat} {q : xQ} (hq : xins 58 pc = some q) : xok 58 pc q = true := by
  by_cases h : pc < 150
  · by_cases q0 : pc < 120
    · exact xck_use xk58_0 (by omega) (by omega) hq
    exact xck_use xk58_120 (by omega) (by omega) hq
  · have e : xins 58 pc = (bif Nat.ble 150 pc then none else _) := rfl
    rw [e, Nat.ble_eq.mpr (Nat.not_lt.mp h)] at hq
    cases hq
theorem xkk59 {pc : Nat} {q : xQ} (hq : xins 59 pc = some q) : xok 59 pc q = true := by
  by_cases h : pc < 18
  · exact xck_use xk59_0 (by omega) (by omega) hq
  · have e : xins 59 pc = (bif Nat.ble 18 pc then none else _) := rfl
    rw [e, Nat.ble_eq.mpr (Nat.not_lt.mp h)] at hq
    cases hq
theorem xkk60 {pc : Nat} {q : xQ} (hq : xins 60 pc = some q) : xok 60 pc q = true := by
  by_cases h : pc < 38
  · exact xck_use xk60_0 (by omega) (by omega) hq
  · have e : xins 60 pc = (bif Nat.ble 38 pc then none else _) := rfl
    rw [e, Nat.ble_eq.mpr (Nat.not_lt.mp h)] at hq
    cases hq
theorem xkk61 {pc : Nat} {q : xQ} (hq : xins 61 pc = some q) : xok 61 pc q = true := by
  by_cases h : pc < 19
  · exact xck_use xk61_0 (by omega) (by omega) hq
  · have e : xins 61 pc = (bif Nat.ble 19 pc then none else _) := rfl
    rw [e, Nat.ble_eq.mpr (Nat.not_lt.mp h)] at hq
    cases hq
theorem xkk62 {pc : Nat} {q : xQ} (hq : xins 62 pc = some q) : xok 62 pc q = true := by
  by_cases h : pc < 97
  · exact xck_use xk62_0 (by omega) (by omega) hq
  · have e : xins 62 pc = (bif Nat.ble 97 pc then none else _) := rfl
    rw [e, Nat.ble_eq.mpr (Nat.not_lt.mp h)] at hq
    cases hq
theorem xkk63 {pc : Nat} {q : xQ} (hq : xins 63 pc = some q) : xok 63 pc q = true := by
  by_cases h : pc < 85
  · exact xck_use xk63_0 (by omega) (by omega) hq
  · have e : xins 63 pc = (bif Nat.ble 85 pc then none else _) := rfl
    rw [e, Nat.ble_eq.mpr (Nat.not_lt.mp h)] at hq
    cases hq
theorem xkk64 {pc : Nat} {q : xQ} (hq : xins 64 pc = some q) : xok 64 pc q = true := by
  by_cases h : pc < 18
  · exact xck_use xk64_0 (by omega) (by omega) hq
  · have e : xins 64 pc = (bif Nat.ble 18 pc then none else _) := rfl
    rw [e, Nat.ble_eq.mpr (Nat.not_lt.mp h)] at hq
    cases hq
theorem xkk65 {pc : Nat} {q : xQ} (hq : xins 65 pc = some q) : xok 65 pc q = true := by
  by_cases h : pc < 18
  · exact xck_use xk65_0 (by omega) (by omega) hq
  · have e : xins 65 pc = (bif Nat.ble 18 pc then none else _) := rfl
    rw [e, Nat.ble_eq.mpr (Nat.not_lt.mp h)] at hq
    cases hq
theorem xkk66 {pc : Nat} {q : xQ} (hq : xins 66 pc = some q) : xok 66 pc q = true := by
  by_cases h : pc < 92
  · exact xck_use xk66_0 (by omega) (by omega) hq
  · have e : xins 66 pc = (bif Nat.ble 92 pc then none else _) := rfl
    rw [e, Nat.ble_eq.mpr (Nat.not_lt.mp h)] at hq
    cases hq
theorem xkk67 {pc : Nat} {q : xQ} (hq : xins 67 pc = some q) : xok 67 pc q = true := by
  by_cases h : pc < 19
  · exact xck_use xk67_0 (by omega) (by omega) hq
  · have e : xins 67 pc = (bif Nat.ble 19 pc then none else _) := rfl
    rw [e, Nat.ble_eq.mpr (Nat.not_lt.mp h)] at hq
    cases hq
theorem xkk68 {pc : Nat} {q : xQ} (hq : xins 68 pc = some q) : xok 68 pc q = true := by
  by_cases h : pc < 138
  · by_cases q0 : pc < 120
    · exact xck_use xk68_0 (by omega) (by omega) hq
    exact xck_use xk68_120 (by omega) (by omega) hq
  · have e : xins 68 pc = (bif Nat.ble 138 pc then none else _) := rfl
    rw [e, Nat.ble_eq.mpr (Nat.not_lt.mp h)] at hq
    cases hq
theorem xkk69 {pc : Nat} {q : xQ} (hq : xins 69 pc = some q) : xok 69 pc q = true := by
  by_cases h : pc < 127
  · by_cases q0 : pc < 120
    · exact xck_use xk69_0 (by omega) (by omega) hq
    exact xck_use xk69_120 (by omega) (by omega) hq
  · have e : xins 69 pc = (bif Nat.ble 127 pc then none else _) := rfl
    rw [e, Nat.ble_eq.mpr (Nat.not_lt.mp h)] at hq
    cases hq
theorem xkk70 {pc : Nat} {q : xQ} (hq : xins 70 pc = some q) : xok 70 pc q = true := by
  by_cases h : pc < 53
  · exact xck_use xk70_0 (by omega) (by omega) hq
  · have e : xins 70 pc = (bif Nat.ble 53 pc then none else _) := rfl
    rw [e, Nat.ble_eq.mpr (Nat.not_lt.mp h)] at hq
    cases hq
theorem xkk71 {pc : Nat} {q : xQ} (hq : xins 71 pc = some q) : xok 71 pc q = true := by
  by_cases h : pc < 23
  · exact xck_use xk71_0 (by omega) (by omega) hq
  · have e : xins 71 pc = (bif Nat.ble 23 pc then none else _) := rfl
    rw [e, Nat.ble_eq.mpr (Nat.not_lt.mp h)] at hq
    cases hq
theorem xkk72 {pc : Nat} {q : xQ} (hq : xins 72 pc = some q) : xok 72 pc q = true := by
  by_cases h : pc < 75
  · exact xck_use xk72_0 (by omega) (by omega) hq
  · have e : xins 72 pc = (bif Nat.ble 75 pc then none else _) := rfl
    rw [e, Nat.ble_eq.mpr (Nat.not_lt.mp h)] at hq
    cases hq
theorem xkk73 {pc : Nat} {q : xQ} (hq : xins 73 pc = some q) : xok 73 pc q = true := by
  by_cases h : pc < 22
  · exact xck_use xk73_0 (by omega) (by omega) hq
  · have e : xins 73 pc = (bif Nat.ble 22 pc then none else _) := rfl
    rw [e, Nat.ble_eq.mpr (Nat.not_lt.mp h)] at hq
    cases hq
theorem xkk74 {pc : Nat} {q : xQ} (hq : xins 74 pc = some q) : xok 74 pc q = true := by
  by_cases h : pc < 31
  · exact xck_use xk74_0 (by omega) (by omega) hq
  · have e : xins 74 pc = (bif Nat.ble 31 pc then none else _) := rfl
    rw [e, Nat.ble_eq.mpr (Nat.not_lt.mp h)] at hq
    cases hq
theorem xkk75 {pc : Nat} {q : xQ} (hq : xins 75 pc = some q) : xok 75 pc q = true := by
  by_cases h : pc < 44
  · exact xck_use xk75_0 (by omega) (by omega) hq
  · have e : xins 75 pc = (bif Nat.ble 44 pc then none else _) := rfl
    rw [e, Nat.ble_eq.mpr (Nat.not_lt.mp h)] at hq
    cases hq
theorem xkk76 {pc : Nat} {q : xQ} (hq : xins 76 pc = some q) : xok 76 pc q = true := by
  by_cases h : pc < 105
  · exact xck_use xk76_0 (by omega) (by omega) hq
  · have e : xins 76 pc = (bif Nat.ble 105 pc then none else _) := rfl
    rw [e, Nat.ble_eq.mpr (Nat.not_lt.mp h)] at hq
    cases hq
theorem xkk77 {pc : Nat} {q : xQ} (hq : xins 77 pc = some q) : xok 77 pc q = true := by
  by_cases h : pc < 175
  · by_cases q0 : pc < 120
    · exact xck_use xk77_0 (by omega) (by omega) hq
    exact xck_use xk77_120 (by omega) (by omega) hq
  · have e : xins 77 pc = (bif Nat.ble 175 pc then none else _) := rfl
    rw [e, Nat.ble_eq.mpr (Nat.not_lt.mp h)] at hq
    cases hq
theorem xkk78 {pc : Nat} {q : xQ} (hq : xins 78 pc = some q) : xok 78 pc q = true := by
  by_cases h : pc < 107
  · exact xck_use xk78_0 (by omega) (by omega) hq
  · have e : xins 78 pc = (bif Nat.ble 107 pc then none else _) := rfl
    rw [e, Nat.ble_eq.mpr (Nat.not_lt.mp h)] at hq
    cases hq
theorem xkk79 {pc : Nat} {q : xQ} (hq : xins 79 pc = some q) : xok 79 pc q = true := by
  by_cases h : pc < 43
  · exact xck_use xk79_0 (by omega) (by omega) hq
  · have e : xins 79 pc = (bif Nat.ble 43 pc then none else _) := rfl
    rw [e, Nat.ble_eq.mpr (Nat.not_lt.mp h)] at hq
    cases hq
theorem xkk80 {pc : Nat} {q : xQ} (hq : xins 80 pc = some q) : xok 80 pc q = true := by
  by_cases h : pc < 59
  · exact xck_use xk80_0 (by omega) (by omega) hq
  · have e : xins 80 pc = (bif Nat.ble 59 pc then none else _) := rfl
    rw [e, Nat.ble_eq.mpr (Nat.not_lt.mp h)] at hq
    cases hq
theorem xkk81 {pc : Nat} {q : xQ} (hq : xins 81 pc = some q) : xok 81 pc q = true := by
  by_cases h : pc < 34
  · exact xck_use xk81_0 (by omega) (by omega) hq
  · have e : xins 81 pc = (bif Nat.ble 34 pc then none else _) := rfl
    rw [e, Nat.ble_eq.mpr (Nat.not_lt.mp h)] at hq
    cases hq
theorem xkk82 {pc : Nat} {q : xQ} (hq : xins 82 pc = some q) : xok 82 pc q = true := by
  by_cases h : pc < 164
  · by_cases q0 : pc < 120
    · exact xck_use xk82_0 (by omega) (by omega) hq
    exact xck_use xk82_120 (by omega) (by omega) hq
  · have e : xins 82 pc = (bif Nat.ble 164 pc then none else _) := rfl
    rw [e, Nat.ble_eq.mpr (Nat.not_lt.mp h)] at hq
    cases hq
theorem xkk83 {pc : Nat} {q : xQ} (hq : xins 83 pc = some q) : xok 83 pc q = true := by
  by_cases h : pc < 55
  · exact xck_use xk83_0 (by omega) (by omega) hq
  · have e : xins 83 pc = (bif Nat.ble 55 pc then none else _) := rfl
    rw [e, Nat.ble_eq.mpr (Nat.not_lt.mp h)] at hq
    cases hq
theorem xkk84 {pc : Nat} {q : xQ} (hq : xins 84 pc = some q) : xok 84 pc q = true := by
  by_cases h : pc < 172
  · by_cases q0 : pc < 120
    · exact xck_use xk84_0 (by omega) (by omega) hq
    exact xck_use xk84_120 (by omega) (by omega) hq
  · have e : xins 84 pc = (bif Nat.ble 172 pc then none else _) := rfl
    rw [e, Nat.ble_eq.mpr (Nat.not_lt.mp h)] at hq
    cases hq
theorem xkk85 {pc : Nat} {q : xQ} (hq : xins 85 pc = some q) : xok 85 pc q = true := by
  by_cases h : pc < 154
  · by_cases q0 : pc < 120
    · exact xck_use xk85_0 (by omega) (by omega) hq
    exact xck_use xk85_120 (by omega) (by omega) hq
  · have e : xins 85 pc = (bif Nat.ble 154 pc then none else _) := rfl
    rw [e, Nat.ble_eq.mpr (Nat.not_lt.mp h)] at hq
    cases hq
theorem xkk86 {pc : Nat} {q : xQ} (hq : xins 86 pc = some q) : xok 86 pc q = true := by
  by_cases h : pc < 126
  · by_cases q0 : pc < 120
    · exact xck_use xk86_0 (by omega) (by omega) hq
    exact xck_use xk86_120 (by omega) (by omega) hq
  · have e : xins 86 pc = (bif Nat.ble 126 pc then none else _) := rfl
    rw [e, Nat.ble_eq.mpr (Nat.not_lt.mp h)] at hq
    cases hq
theorem xkk87 {pc : Nat} {q : xQ} (hq : xins 87 pc = some q) : xok 87 pc q = true := by
  by_cases h : pc < 9
  · exact xck_use xk87_0 (by omega) (by omega) hq
  · have e : xins 87 pc = (bif Nat.ble 9 pc then none else _) := rfl
    rw [e, Nat.ble_eq.mpr (Nat.not_lt.mp h)] at hq
    cases hq
theorem xkk88 {pc : Nat} {q : xQ} (hq : xins 88 pc = some q) : xok 88 pc q = true := by
  by_cases h : pc < 138
  · by_cases q0 : pc < 120
    · exact xck_use xk88_0 (by omega) (by omega) hq
    exact xck_use xk88_120 (by omega) (by omega) hq
  · have e : xins 88 pc = (bif Nat.ble 138 pc then none else _) := rfl
    rw [e, Nat.ble_eq.mpr (Nat.not_lt.mp h)] at hq
    cases hq
theorem xkk89 {pc : Nat} {q : xQ} (hq : xins 89 pc = some q) : xok 89 pc q = true := by
  by_cases h : pc < 207
  · by_cases q0 : pc < 120
    · exact xck_use xk89_0 (by omega) (by omega) hq
    exact xck_use xk89_120 (by omega) (by omega) hq
  · have e : xins 89 pc = (bif Nat.ble 207 pc then none else _) := rfl
    rw [e, Nat.ble_eq.mpr (Nat.not_lt.mp h)] at hq
    cases hq
theorem xkk90 {pc : Nat} {q : xQ} (hq : xins 90 pc = some q) : xok 90 pc q = true := by
  by_cases h : pc < 53
  · exact xck_use xk90_0 (by omega) (by omega) hq
  · have e : xins 90 pc = (bif Nat.ble 53 pc then none else _) := rfl
    rw [e, Nat.ble_eq.mpr (Nat.not_lt.mp h)] at hq
    cases hq
theorem xkk91 {pc : Nat} {q : xQ} (hq : xins 91 pc = some q) : xok 91 pc q = true := by
  by_cases h : pc < 91
  · exact xck_use xk91_0 (by omega) (by omega) hq
  · have e : xins 91 pc = (bif Nat.ble 91 pc then none else _) := rfl
    rw [e, Nat.ble_eq.mpr (Nat.not_lt.mp h)] at hq
    cases hq
theorem xkk92 {pc : Nat} {q : xQ} (hq : xins 92 pc = some q) : xok 92 pc q = true := by
  by_cases h : pc < 102
  · exact xck_use xk92_0 (by omega) (by omega) hq
  · have e : xins 92 pc = (bif Nat.ble 102 pc then none else _) := rfl
    rw [e, Nat.ble_eq.mpr (Nat.not_lt.mp h)] at hq
    cases hq
theorem xkk93 {pc : Nat} {q : xQ} (hq : xins 93 pc = some q) : xok 93 pc q = true := by
  by_cases h : pc < 73
  · exact xck_use xk93_0 (by omega) (by omega) hq
  · have e : xins 93 pc = (bif Nat.ble 73 pc then none else _) := rfl
    rw [e, Nat.ble_eq.mpr (Nat.not_lt.mp h)] at hq
    cases hq
theorem xkk94 {pc : Nat} {q : xQ} (hq : xins 94 pc = some q) : xok 94 pc q = true := by
  by_cases h : pc < 48
  · exact xck_use xk94_0 (by omega) (by omega) hq
  · have e : xins 94 pc = (bif Nat.ble 48 pc then none else _) := rfl
    rw [e, Nat.ble_eq.mpr (Nat.not_lt.mp h)] at hq
    cases hq
theorem xkk95 {pc : Nat} {q : xQ} (hq : xins 95 pc = some q) : xok 95 pc q = true := by
  by_cases h : pc < 44
  · exact xck_use xk95_0 (by omega) (by omega) hq
  · have e : xins 95 pc = (bif Nat.ble 44 pc then none else _) := rfl
    rw [e, Nat.ble_eq.mpr (Nat.not_lt.mp h)] at hq
    cases hq
theorem xkk96 {pc : Nat} {q : xQ} (hq : xins 96 pc = some q) : xok 96 pc q = true := by
  by_cases h : pc < 64
  · exact xck_use xk96_0 (by omega) (by omega) hq
  · have e : xins 96 pc = (bif Nat.ble 64 pc then none else _) := rfl
    rw [e, Nat.ble_eq.mpr (Nat.not_lt.mp h)] at hq
    cases hq
theorem xkk97 {pc : Nat} {q : xQ} (hq : xins 97 pc = some q) : xok 97 pc q = true := by
  by_cases h : pc < 29
  · exact xck_use xk97_0 (by omega) (by omega) hq
  · have e : xins 97 pc = (bif Nat.ble 29 pc then none else _) := rfl
    rw [e, Nat.ble_eq.mpr (Nat.not_lt.mp h)] at hq
    cases hq
theorem xkk98 {pc : Nat} {q : xQ} (hq : xins 98 pc = some q) : xok 98 pc q = true := by
  by_cases h : pc < 65
  · exact xck_use xk98_0 (by omega) (by omega) hq
  · have e : xins 98 pc = (bif Nat.ble 65 pc then none else _) := rfl
    rw [e, Nat.ble_eq.mpr (Nat.not_lt.mp h)] at hq
    cases hq
theorem xkk99 {pc : Nat} {q : xQ} (hq : xins 99 pc = some q) : xok 99 pc q = true := by
  by_cases h : pc < 69
  · exact xck_use xk99_0 (by omega) (by omega) hq
  · have e : xins 99 pc = (bif Nat.ble 69 pc then none else _) := rfl
    rw [e, Nat.ble_eq.mpr (Nat.not_lt.mp h)] at hq
    cases hq
theorem xkk100 {pc : Nat} {q : xQ} (hq : xins 100 pc = some q) : xok 100 pc q = true := by
  by_cases h : pc < 41
  · exact xck_use xk100_0 (by omega) (by omega) hq
  · have e : xins 100 pc = (bif Nat.ble 41 pc then none else _) := rfl
    rw [e, Nat.ble_eq.mpr (Nat.not_lt.mp h)] at hq
    cases hq
theorem xkk101 {pc : Nat} {q : xQ} (hq : xins 101 pc = some q) : xok 101 pc q = true := by
  by_cases h : pc < 66
  · exact xck_use xk101_0 (by omega) (by omega) hq
  · have e : xins 101 pc = (bif Nat.ble 66 pc then none else _) := rfl
    rw [e, Nat.ble_eq.mpr (Nat.not_lt.mp h)] at hq
    cases hq
theorem xkk102 {pc : Nat} {q : xQ} (hq : xins 102 pc = some q) : xok 102 pc q = true := by
  by_cases h : pc < 77
  · exact xck_use xk102_0 (by omega) (by omega) hq
  · have e : xins 102 pc = (bif Nat.ble 77 pc then none else _) := rfl
    rw [e, Nat.ble_eq.mpr (Nat.not_lt.mp h)] at hq
    cases hq
theorem xkk103 {pc : Nat} {q : xQ} (hq : xins 103 pc = some q) : xok 103 pc q = true := by
  by_cases h : pc < 26
  · exact xck_use xk103_0 (by omega) (by omega) hq
  · have e : xins 103 pc = (bif Nat.ble 26 pc then none else _) := rfl
    rw [e, Nat.ble_eq.mpr (Nat.not_lt.mp h)] at hq
    cases hq
theorem xkk104 {pc : Nat} {q : xQ} (hq : xins 104 pc = some q) : xok 104 pc q = true := by
  by_cases h : pc < 121
  · by_cases q0 : pc < 120
    · exact xck_use xk104_0 (by omega) (by omega) hq
    exact xck_use xk104_120 (by omega) (by omega) hq
  · have e : xins 104 pc = (bif Nat.ble 121 pc then none else _) := rfl
    rw [e, Nat.ble_eq.mpr (Nat.not_lt.mp h)] at hq
    cases hq
theorem xkk105 {pc : Nat} {q : xQ} (hq : xins 105 pc = some q) : xok 105 pc q = true := by
  by_cases h : pc < 72
  · exact xck_use xk105_0 (by omega) (by omega) hq
  · have e : xins 105 pc = (bif Nat.ble 72 pc then none else _) := rfl
    rw [e, Nat.ble_eq.mpr (Nat.not_lt.mp h)] at hq
    cases hq
theorem xkk106 {pc : Nat} {q : xQ} (hq : xins 106 pc = some q) : xok 106 pc q = true := by
  by_cases h : pc < 24
  · exact xck_use xk106_0 (by omega) (by omega) hq
  · have e : xins 106 pc = (bif Nat.ble 24 pc then none else _) := rfl
    rw [e, Nat.ble_eq.mpr (Nat.not_lt.mp h)] at hq
    cases hq
theorem xkk107 {pc : Nat} {q : xQ} (hq : xins 107 pc = some q) : xok 107 pc q = true := by
  by_cases h : pc < 23
  · exact xck_use xk107_0 (by omega) (by omega) hq
  · have e : xins 107 pc = (bif Nat.ble 23 pc then none else _) := rfl
    rw [e, Nat.ble_eq.mpr (Nat.not_lt.mp h)] at hq
    cases hq
theorem xkk108 {pc : Nat} {q : xQ} (hq : xins 108 pc = some q) : xok 108 pc q = true := by
  by_cases h : pc < 25
  · exact xck_use xk108_0 (by omega) (by omega) hq
  · have e : xins 108 pc = (bif Nat.ble 25 pc then none else _) := rfl
    rw [e, Nat.ble_eq.mpr (Nat.not_lt.mp h)] at hq
    cases hq
theorem xkk109 {pc : Nat} {q : xQ} (hq : xins 109 pc = some q) : xok 109 pc q = true := by
  by_cases h : pc < 46
  · exact xck_use xk109_0 (by omega) (by omega) hq
  · have e : xins 109 pc = (bif Nat.ble 46 pc then none else _) := rfl
    rw [e, Nat.ble_eq.mpr (Nat.not_lt.mp h)] at hq
    cases hq
theorem xkk110 {pc : Nat} {q : xQ} (hq : xins 110 pc = some q) : xok 110 pc q = true := by
  by_cases h : pc < 72
  · exact xck_use xk110_0 (by omega) (by omega) hq
  · have e : xins 110 pc = (bif Nat.ble 72 pc then none else _) := rfl
    rw [e, Nat.ble_eq.mpr (Nat.not_lt.mp h)] at hq
    cases hq
theorem xkk111 {pc : Nat} {q : xQ} (hq : xins 111 pc = some q) : xok 111 pc q = true := by
  by_cases h : pc < 39
  · exact xck_use xk111_0 (by omega) (by omega) hq
  · have e : xins 111 pc = (bif Nat.ble 39 pc then none else _) := rfl
    rw [e, Nat.ble_eq.mpr (Nat.not_lt.mp h)] at hq
    cases hq
theorem xkk112 {pc : Nat} {q : xQ} (hq : xins 112 pc = some q) : xok 112 pc q = true := by
  by_cases h : pc < 94
  · exact xck_use xk112_0 (by omega) (by omega) hq
  · have e : xins 112 pc = (bif Nat.ble 94 pc then none else _) := rfl
    rw [e, Nat.ble_eq.mpr (Nat.not_lt.mp h)] at hq
    cases hq
theorem xkk113 {pc : Nat} {q : xQ} (hq : xins 113 pc = some q) : xok 113 pc q = true := by
  by_cases h : pc < 160
  · by_cases q0 : pc < 120
    · exact xck_use xk113_0 (by omega) (by omega) hq
    exact xck_use xk113_120 (by omega) (by omega) hq
  · have e : xins 113 pc = (bif Nat.ble 160 pc then none else _) := rfl
    rw [e, Nat.ble_eq.mpr (Nat.not_lt.mp h)] at hq
    cases hq
theorem xkk114 {pc : Nat} {q : xQ} (hq : xins 114 pc = some q) : xok 114 pc q = true := by
  by_cases h : pc < 62
  · exact xck_use xk114_0 (by omega) (by omega) hq
  · have e : xins 114 pc = (bif Nat.ble 62 pc then none else _) := rfl
    rw [e, Nat.ble_eq.mpr (Nat.not_lt.mp h)] at hq
    cases hq
theorem xkk115 {pc : Nat} {q : xQ} (hq : xins 115 pc = some q) : xok 115 pc q = true := by
  by_cases h : pc < 64
  · exact xck_use xk115_0 (by omega) (by omega) hq
  · have e : xins 115 pc = (bif Nat.ble 64 pc then none else _) := rfl
    rw [e, Nat.ble_eq.mpr (Nat.not_lt.mp h)] at hq
    cases hq
theorem xkk116 {pc : Nat} {q : xQ} (hq : xins 116 pc = some q) : xok 116 pc q = true := by
  by_cases h : pc < 121
  · by_cases q0 : pc < 120
    · exact xck_use xk116_0 (by omega) (by omega) hq
    exact xck_use xk116_120 (by omega) (by omega) hq
  · have e : xins 116 pc = (bif Nat.ble 121 pc then none else _) := rfl
    rw [e, Nat.ble_eq.mpr (Nat.not_lt.mp h)] at hq
    cases hq
theorem xkk117 {pc : Nat} {q : xQ} (hq : xins 117 pc = some q) : xok 117 pc q = true := by
  by_cases h : pc < 121
  · by_cases q0 : pc < 120
    · exact xck_use xk117_0 (by omega) (by omega) hq
    exact xck_use xk117_120 (by omega) (by omega) hq
  · have e : xins 117 pc = (bif Nat.ble 121 pc then none else _) := rfl
    rw [e, Nat.ble_eq.mpr (Nat.not_lt.mp h)] at hq
    cases hq
theorem xkk118 {pc : Nat} {q : xQ} (hq : xins 118 pc = some q) : xok 118 pc q = true := by
  by_cases h : pc < 62
  · exact xck_use xk118_0 (by omega) (by omega) hq
  · have e : xins 118 pc = (bif Nat.ble 62 pc then none else _) := rfl
    rw [e, Nat.ble_eq.mpr (Nat.not_lt.mp h)] at hq
    cases hq
theorem xkk119 {pc : Nat} {q : xQ} (hq : xins 119 pc = some q) : xok 119 pc q = true := by
  by_cases h : pc < 79
  · exact xck_use xk119_0 (by omega) (by omega) hq
  · have e : xins 119 pc = (bif Nat.ble 79 pc then none else _) := rfl
    rw [e, Nat.ble_eq.mpr (Nat.not_lt.mp h)] at hq
    cases hq
theorem xkk120 {pc : Nat} {q : xQ} (hq : xins 120 pc = some q) : xok 120 pc q = true := by
  by_cases h : pc < 24
  · exact xck_use xk120_0 (by omega) (by omega) hq
  · have e : xins 120 pc = (bif Nat.ble 24 pc then none else _) := rfl
    rw [e, Nat.ble_eq.mpr (Nat.not_lt.mp h)] at hq
    cases hq
theorem xkk121 {pc : Nat} {q : xQ} (hq : xins 121 pc = some q) : xok 121 pc q = true := by
  by_cases h : pc < 97
  · exact xck_use xk121_0 (by omega) (by omega) hq
  · have e : xins 121 pc = (bif Nat.ble 97 pc then none else _) := rfl
    rw [e, Nat.ble_eq.mpr (Nat.not_lt.mp h)] at hq
    cases hq
theorem xkk122 {pc : Nat} {q : xQ} (hq : xins 122 pc = some q) : xok 122 pc q = true := by
  by_cases h : pc < 92
  · exact xck_use xk122_0 (by omega) (by omega) hq
  · have e : xins 122 pc = (bif Nat.ble 92 pc then none else _) := rfl
    rw [e, Nat.ble_eq.mpr (Nat.not_lt.mp h)] at hq
    cases hq
theorem xkk123 {pc : Nat} {q : xQ} (hq : xins 123 pc = some q) : xok 123 pc q = true := by
  by_cases h : pc < 121
  · by_cases q0 : pc < 120
    · exact xck_use xk123_0 (by omega) (by omega) hq
    exact xck_use xk123_120 (by omega) (by omega) hq
  · have e : xins 123 pc = (bif Nat.ble 121 pc then none else _) := rfl
    rw [e, Nat.ble_eq.mpr (Nat.not_lt.mp h)] at hq
    cases hq
theorem xkk124 {pc : Nat} {q : xQ} (hq : xins 124 pc = some q) : xok 124 pc q = true := by
  by_cases h : pc < 41
  · exact xck_use xk124_0 (by omega) (by omega) hq
  · have e : xins 124 pc = (bif Nat.ble 41 pc then none else _) := rfl
    rw [e, Nat.ble_eq.mpr (Nat.not_lt.mp h)] at hq
    cases hq
theorem xkk125 {pc : Nat} {q : xQ} (hq : xins 125 pc = some q) : xok 125 pc q = true := by
  by_cases h : pc < 35
  · exact xck_use xk125_0 (by omega) (by omega) hq
  · have e : xins 125 pc = (bif Nat.ble 35 pc then none else _) := rfl
    rw [e, Nat.ble_eq.mpr (Nat.not_lt.mp h)] at hq
    cases hq
theorem xkk126 {pc : Nat} {q : xQ} (hq : xins 126 pc = some q) : xok 126 pc q = true := by
  by_cases h : pc < 116
  · exact xck_use xk126_0 (by omega) (by omega) hq
  · have e : xins 126 pc = (bif Nat.ble 116 pc then none else _) := rfl
    rw [e, Nat.ble_eq.mpr (Nat.not_lt.mp h)] at hq
    cases hq
theorem xkk127 {pc : Nat} {q : xQ} (hq : xins 127 pc = some q) : xok 127 pc q = true := by
  by_cases h : pc < 89
  · exact xck_use xk127_0 (by omega) (by omega) hq
  · have e : xins 127 pc = (bif Nat.ble 89 pc then none else _) := rfl
    rw [e, Nat.ble_eq.mpr (Nat.not_lt.mp h)] at hq
    cases hq
theorem xkk128 {pc : Nat} {q : xQ} (hq : xins 128 pc = some q) : xok 128 pc q = true := by
  by_cases h : pc < 235
  · by_cases q0 : pc < 120
    · exact xck_use xk128_0 (by omega) (by omega) hq
    exact xck_use xk128_120 (by omega) (by omega) hq
  · have e : xins 128 pc = (bif Nat.ble 235 pc then none else _) := rfl
    rw [e, Nat.ble_eq.mpr (Nat.not_lt.mp h)] at hq
    cases hq
theorem xkk129 {pc : Nat} {q : xQ} (hq : xins 129 pc = some q) : xok 129 pc q = true := by
  by_cases h : pc < 37
  · exact xck_use xk129_0 (by omega) (by omega) hq
  · have e : xins 129 pc = (bif Nat.ble 37 pc then none else _) := rfl
    rw [e, Nat.ble_eq.mpr (Nat.not_lt.mp h)] at hq
    cases hq
theorem xkk130 {pc : Nat} {q : xQ} (hq : xins 130 pc = some q) : xok 130 pc q = true := by
  by_cases h : pc < 24
  · exact xck_use xk130_0 (by omega) (by omega) hq
  · have e : xins 130 pc = (bif Nat.ble 24 pc then none else _) := rfl
    rw [e, Nat.ble_eq.mpr (Nat.not_lt.mp h)] at hq
    cases hq
theorem xkk131 {pc : Nat} {q : xQ} (hq : xins 131 pc = some q) : xok 131 pc q = true := by
  by_cases h : pc < 61
  · exact xck_use xk131_0 (by omega) (by omega) hq
  · have e : xins 131 pc = (bif Nat.ble 61 pc then none else _) := rfl
    rw [e, Nat.ble_eq.mpr (Nat.not_lt.mp h)] at hq
    cases hq
theorem xkk132 {pc : Nat} {q : xQ} (hq : xins 132 pc = some q) : xok 132 pc q = true := by
  by_cases h : pc < 49
  · exact xck_use xk132_0 (by omega) (by omega) hq
  · have e : xins 132 pc = (bif Nat.ble 49 pc then none else _) := rfl
    rw [e, Nat.ble_eq.mpr (Nat.not_lt.mp h)] at hq
    cases hq
theorem xkk133 {pc : Nat} {q : xQ} (hq : xins 133 pc = some q) : xok 133 pc q = true := by
  by_cases h : pc < 109
  · exact xck_use xk133_0 (by omega) (by omega) hq
  · have e : xins 133 pc = (bif Nat.ble 109 pc then none else _) := rfl
    rw [e, Nat.ble_eq.mpr (Nat.not_lt.mp h)] at hq
    cases hq
theorem xkk134 {pc : Nat} {q : xQ} (hq : xins 134 pc = some q) : xok 134 pc q = true := by
  by_cases h : pc < 74
  · exact xck_use xk134_0 (by omega) (by omega) hq
  · have e : xins 134 pc = (bif Nat.ble 74 pc then none else _) := rfl
    rw [e, Nat.ble_eq.mpr (Nat.not_lt.mp h)] at hq
    cases hq
theorem xkk135 {pc : Nat} {q : xQ} (hq : xins 135 pc = some q) : xok 135 pc q = true := by
  by_cases h : pc < 53
  · exact xck_use xk135_0 (by omega) (by omega) hq
  · have e : xins 135 pc = (bif Nat.ble 53 pc then none else _) := rfl
    rw [e, Nat.ble_eq.mpr (Nat.not_lt.mp h)] at hq
    cases hq
theorem xkk136 {pc : Nat} {q : xQ} (hq : xins 136 pc = some q) : xok 136 pc q = true := by
  by_cases h : pc < 28
  · exact xck_use xk136_0 (by omega) (by omega) hq
  · have e : xins 136 pc = (bif Nat.ble 28 pc then none else _) := rfl
    rw [e, Nat.ble_eq.mpr (Nat.not_lt.mp h)] at hq
    cases hq
theorem xkk137 {pc : Nat} {q : xQ} (hq : xins 137 pc = some q) : xok 137 pc q = true := by
  by_cases h : pc < 89
  · exact xck_use xk137_0 (by omega) (by omega) hq
  · have e : xins 137 pc = (bif Nat.ble 89 pc then none else _) := rfl
    rw [e, Nat.ble_eq.mpr (Nat.not_lt.mp h)] at hq
    cases hq
theorem xkk138 {pc : Nat} {q : xQ} (hq : xins 138 pc = some q) : xok 138 pc q = true := by
  by_cases h : pc < 53
  · exact xck_use xk138_0 (by omega) (by omega) hq
  · have e : xins 138 pc = (bif Nat.ble 53 pc then none else _) := rfl
    rw [e, Nat.ble_eq.mpr (Nat.not_lt.mp h)] at hq
    cases hq
theorem xkk139 {pc : Nat} {q : xQ} (hq : xins 139 pc = some q) : xok 139 pc q = true := by
  by_cases h : pc < 46
  · exact xck_use xk139_0 (by omega) (by omega) hq
  · have e : xins 139 pc = (bif Nat.ble 46 pc then none else _) := rfl
    rw [e, Nat.ble_eq.mpr (Nat.not_lt.mp h)] at hq
    cases hq
theorem xkk140 {pc : Nat} {q : xQ} (hq : xins 140 pc = some q) : xok 140 pc q = true := by
  by_cases h : pc < 316
  · by_cases q0 : pc < 120
    · exact xck_use xk140_0 (by omega) (by omega) hq
    by_cases q120 : pc < 240
    · exact xck_use xk140_120 (by omega) (by omega) hq
    exact xck_use xk140_240 (by omega) (by omega) hq
  · have e : xins 140 pc = (bif Nat.ble 316 pc then none else _) := rfl
    rw [e, Nat.ble_eq.mpr (Nat.not_lt.mp h)] at hq
    cases hq
theorem xkk141 {pc : Nat} {q : xQ} (hq : xins 141 pc = some q) : xok 141 pc q = true := by
  by_cases h : pc < 23
  · exact xck_use xk141_0 (by omega) (by omega) hq
  · have e : xins 141 pc = (bif Nat.ble 23 pc then none else _) := rfl
    rw [e, Nat.ble_eq.mpr (Nat.not_lt.mp h)] at hq
    cases hq
theorem xkk142 {pc : Nat} {q : xQ} (hq : xins 142 pc = some q) : xok 142 pc q = true := by
  by_cases h : pc < 285
  · by_cases q0 : pc < 120
    · exact xck_use xk142_0 (by omega) (by omega) hq
    by_cases q120 : pc < 240
    · exact xck_use xk142_120 (by omega) (by omega) hq
    exact xck_use xk142_240 (by omega) (by omega) hq
  · have e : xins 142 pc = (bif Nat.ble 285 pc then none else _) := rfl
    rw [e, Nat.ble_eq.mpr (Nat.not_lt.mp h)] at hq
    cases hq
theorem xkk143 {pc : Nat} {q : xQ} (hq : xins 143 pc = some q) : xok 143 pc q = true := by
  by_cases h : pc < 22
  · exact xck_use xk143_0 (by omega) (by omega) hq
  · have e : xins 143 pc = (bif Nat.ble 22 pc then none else _) := rfl
    rw [e, Nat.ble_eq.mpr (Nat.not_lt.mp h)] at hq
    cases hq
theorem xkk144 {pc : Nat} {q : xQ} (hq : xins 144 pc = some q) : xok 144 pc q = true := by
  by_cases h : pc < 28
  · exact xck_use xk144_0 (by omega) (by omega) hq
  · have e : xins 144 pc = (bif Nat.ble 28 pc then none else _) := rfl
    rw [e, Nat.ble_eq.mpr (Nat.not_lt.mp h)] at hq
    cases hq
theorem xkk145 {pc : Nat} {q : xQ} (hq : xins 145 pc = some q) : xok 145 pc q = true := by
  by_cases h : pc < 120
  · exact xck_use xk145_0 (by omega) (by omega) hq
  · have e : xins 145 pc = (bif Nat.ble 120 pc then none else _) := rfl
    rw [e, Nat.ble_eq.mpr (Nat.not_lt.mp h)] at hq
    cases hq
theorem xkk146 {pc : Nat} {q : xQ} (hq : xins 146 pc = some q) : xok 146 pc q = true := by
  by_cases h : pc < 21
  · exact xck_use xk146_0 (by omega) (by omega) hq
  · have e : xins 146 pc = (bif Nat.ble 21 pc then none else _) := rfl
    rw [e, Nat.ble_eq.mpr (Nat.not_lt.mp h)] at hq
    cases hq
theorem xkk147 {pc : Nat} {q : xQ} (hq : xins 147 pc = some q) : xok 147 pc q = true := by
  by_cases h : pc < 25
  · exact xck_use xk147_0 (by omega) (by omega) hq
  · have e : xins 147 pc = (bif Nat.ble 25 pc then none else _) := rfl
    rw [e, Nat.ble_eq.mpr (Nat.not_lt.mp h)] at hq
    cases hq
theorem xkk148 {pc : Nat} {q : xQ} (hq : xins 148 pc = some q) : xok 148 pc q = true := by
  by_cases h : pc < 74
  · exact xck_use xk148_0 (by omega) (by omega) hq
  · have e : xins 148 pc = (bif Nat.ble 74 pc then none else _) := rfl
    rw [e, Nat.ble_eq.mpr (Nat.not_lt.mp h)] at hq
    cases hq
theorem xkk149 {pc : Nat} {q : xQ} (hq : xins 149 pc = some q) : xok 149 pc q = true := by
  by_cases h : pc < 23
  · exact xck_use xk149_0 (by omega) (by omega) hq
  · have e : xins 149 pc = (bif Nat.ble 23 pc then none else _) := rfl
    rw [e, Nat.ble_eq.mpr (Nat.not_lt.mp h)] at hq
    cases hq
theorem xkk150 {pc : Nat} {q : xQ} (hq : xins 150 pc = some q) : xok 150 pc q = true := by
  by_cases h : pc < 276
  · by_cases q0 : pc < 120
    · exact xck_use xk150_0 (by omega) (by omega) hq
    by_cases q120 : pc < 240
    · exact xck_use xk150_120 (by omega) (by omega) hq
    exact xck_use xk150_240 (by omega) (by omega) hq
  · have e : xins 150 pc = (bif Nat.ble 276 pc then none else _) := rfl
    rw [e, Nat.ble_eq.mpr (Nat.not_lt.mp h)] at hq
    cases hq
theorem xkk151 {pc : Nat} {q : xQ} (hq : xins 151 pc = some q) : xok 151 pc q = true := by
  by_cases h : pc < 23
  · exact xck_use xk151_0 (by omega) (by omega) hq
  · have e : xins 151 pc = (bif Nat.ble 23 pc then none else _) := rfl
    rw [e, Nat.ble_eq.mpr (Nat.not_lt.mp h)] at hq
    cases hq
theorem xkk152 {pc : Nat} {q : xQ} (hq : xins 152 pc = some q) : xok 152 pc q = true := by
  by_cases h : pc < 18
  · exact xck_use xk152_0 (by omega) (by omega) hq
  · have e : xins 152 pc = (bif Nat.ble 18 pc then none else _) := rfl
    rw [e, Nat.ble_eq.mpr (Nat.not_lt.mp h)] at hq
    cases hq
theorem xkk153 {pc : Nat} {q : xQ} (hq : xins 153 pc = some q) : xok 153 pc q = true := by
  by_cases h : pc < 121
  · by_cases q0 : pc < 120
    · exact xck_use xk153_0 (by omega) (by omega) hq
    exact xck_use xk153_120 (by omega) (by omega) hq
  · have e : xins 153 pc = (bif Nat.ble 121 pc then none else _) := rfl
    rw [e, Nat.ble_eq.mpr (Nat.not_lt.mp h)] at hq
    cases hq
theorem xkk154 {pc : Nat} {q : xQ} (hq : xins 154 pc = some q) : xok 154 pc q = true := by
  by_cases h : pc < 18
  · exact xck_use xk154_0 (by omega) (by omega) hq
  · have e : xins 154 pc = (bif Nat.ble 18 pc then none else _) := rfl
    rw [e, Nat.ble_eq.mpr (Nat.not_lt.mp h)] at hq
    cases hq
theorem xkk155 {pc : Nat} {q : xQ} (hq : xins 155 pc = some q) : xok 155 pc q = true := by
  by_cases h : pc < 70
  · exact xck_use xk155_0 (by omega) (by omega) hq
  · have e : xins 155 pc = (bif Nat.ble 70 pc then none else _) := rfl
    rw [e, Nat.ble_eq.mpr (Nat.not_lt.mp h)] at hq
    cases hq
theorem xkk156 {pc : Nat} {q : xQ} (hq : xins 156 pc = some q) : xok 156 pc q = true := by
  by_cases h : pc < 149
  · by_cases q0 : pc < 120
    · exact xck_use xk156_0 (by omega) (by omega) hq
    exact xck_use xk156_120 (by omega) (by omega) hq
  · have e : xins 156 pc = (bif Nat.ble 149 pc then none else _) := rfl
    rw [e, Nat.ble_eq.mpr (Nat.not_lt.mp h)] at hq
    cases hq
theorem xkk157 {pc : Nat} {q : xQ} (hq : xins 157 pc = some q) : xok 157 pc q = true := by
  by_cases h : pc < 15
  · exact xck_use xk157_0 (by omega) (by omega) hq
  · have e : xins 157 pc = (bif Nat.ble 15 pc then none else _) := rfl
    rw [e, Nat.ble_eq.mpr (Nat.not_lt.mp h)] at hq
    cases hq
theorem xkk158 {pc : Nat} {q : xQ} (hq : xins 158 pc = some q) : xok 158 pc q = true := by
  by_cases h : pc < 36
  · exact xck_use xk158_0 (by omega) (by omega) hq
  · have e : xins 158 pc = (bif Nat.ble 36 pc then none else _) := rfl
    rw [e, Nat.ble_eq.mpr (Nat.not_lt.mp h)] at hq
    cases hq
theorem xkk159 {pc : Nat} {q : xQ} (hq : xins 159 pc = some q) : xok 159 pc q = true := by
  by_cases h : pc < 46
  · exact xck_use xk159_0 (by omega) (by omega) hq
  · have e : xins 159 pc = (bif Nat.ble 46 pc then none else _) := rfl
    rw [e, Nat.ble_eq.mpr (Nat.not_lt.mp h)] at hq
    cases hq
theorem xkk160 {pc : Nat} {q : xQ} (hq : xins 160 pc = some q) : xok 160 pc q = true := by
  by_cases h : pc < 16
  · exact xck_use xk160_0 (by omega) (by omega) hq
  · have e : xins 160 pc = (bif Nat.ble 16 pc then none else _) := rfl
    rw [e, Nat.ble_eq.mpr (Nat.not_lt.mp h)] at hq
    cases hq
theorem xkk161 {pc : Nat} {q : xQ} (hq : xins 161 pc = some q) : xok 161 pc q = true := by
  by_cases h : pc < 22
  · exact xck_use xk161_0 (by omega) (by omega) hq
  · have e : xins 161 pc = (bif Nat.ble 22 pc then none else _) := rfl
    rw [e, Nat.ble_eq.mpr (Nat.not_lt.mp h)] at hq
    cases hq
theorem xkk162 {pc : Nat} {q : xQ} (hq : xins 162 pc = some q) : xok 162 pc q = true := by
  by_cases h : pc < 207
  · by_cases q0 : pc < 120
    · exact xck_use xk162_0 (by omega) (by omega) hq
    exact xck_use xk162_120 (by omega) (by omega) hq
  · have e : xins 162 pc = (bif Nat.ble 207 pc then none else _) := rfl
    rw [e, Nat.ble_eq.mpr (Nat.not_lt.mp h)] at hq
    cases hq
theorem xkk163 {pc : Nat} {q : xQ} (hq : xins 163 pc = some q) : xok 163 pc q = true := by
  by_cases h : pc < 211
  · by_cases q0 : pc < 120
    · exact xck_use xk163_0 (by omega) (by omega) hq
    exact xck_use xk163_120 (by omega) (by omega) hq
  · have e : xins 163 pc = (bif Nat.ble 211 pc then none else _) := rfl
    rw [e, Nat.ble_eq.mpr (Nat.not_lt.mp h)] at hq
    cases hq
theorem xkk164 {pc : Nat} {q : xQ} (hq : xins 164 pc = some q) : xok 164 pc q = true := by
  by_cases h : pc < 42
  · exact xck_use xk164_0 (by omega) (by omega) hq
  · have e : xins 164 pc = (bif Nat.ble 42 pc then none else _) := rfl
    rw [e, Nat.ble_eq.mpr (Nat.not_lt.mp h)] at hq
    cases hq
theorem xkk165 {pc : Nat} {q : xQ} (hq : xins 165 pc = some q) : xok 165 pc q = true := by
  by_cases h : pc < 140
  · by_cases q0 : pc < 120
    · exact xck_use xk165_0 (by omega) (by omega) hq
    exact xck_use xk165_120 (by omega) (by omega) hq
  · have e : xins 165 pc = (bif Nat.ble 140 pc then none else _) := rfl
    rw [e, Nat.ble_eq.mpr (Nat.not_lt.mp h)] at hq
    cases hq
theorem xkk166 {pc : Nat} {q : xQ} (hq : xins 166 pc = some q) : xok 166 pc q = true := by
  by_cases h : pc < 167
  · by_cases q0 : pc < 120
    · exact xck_use xk166_0 (by omega) (by omega) hq
    exact xck_use xk166_120 (by omega) (by omega) hq
  · have e : xins 166 pc = (bif Nat.ble 167 pc then none else _) := rfl
    rw [e, Nat.ble_eq.mpr (Nat.not_lt.mp h)] at hq
    cases hq
theorem xkk167 {pc : Nat} {q : xQ} (hq : xins 167 pc = some q) : xok 167 pc q = true := by
  by_cases h : pc < 14
  · exact xck_use xk167_0 (by omega) (by omega) hq
  · have e : xins 167 pc = (bif Nat.ble 14 pc then none else _) := rfl
    rw [e, Nat.ble_eq.mpr (Nat.not_lt.mp h)] at hq
    cases hq
theorem xkk168 {pc : Nat} {q : xQ} (hq : xins 168 pc = some q) : xok 168 pc q = true := by
  by_cases h : pc < 14
  · exact xck_use xk168_0 (by omega) (by omega) hq
  · have e : xins 168 pc = (bif Nat.ble 14 pc then none else _) := rfl
    rw [e, Nat.ble_eq.mpr (Nat.not_lt.mp h)] at hq
    cases hq
theorem xkk169 {pc : Nat} {q : xQ} (hq : xins 169 pc = some q) : xok 169 pc q = true := by
  by_cases h : pc < 76
  · exact xck_use xk169_0 (by omega) (by omega) hq
  · have e : xins 169 pc = (bif Nat.ble 76 pc then none else _) := rfl
    rw [e, Nat.ble_eq.mpr (Nat.not_lt.mp h)] at hq
    cases hq
theorem xkk170 {pc : Nat} {q : xQ} (hq : xins 170 pc = some q) : xok 170 pc q = true := by
  by_cases h : pc < 42
  · exact xck_use xk170_0 (by omega) (by omega) hq
  · have e : xins 170 pc = (bif Nat.ble 42 pc then none else _) := rfl
    rw [e, Nat.ble_eq.mpr (Nat.not_lt.mp h)] at hq
    cases hq
theorem xkk171 {pc : Nat} {q : xQ} (hq : xins 171 pc = some q) : xok 171 pc q = true := by
  by_cases h : pc < 12
  · exact xck_use xk171_0 (by omega) (by omega) hq
  · have e : xins 171 pc = (bif Nat.ble 12 pc then none else _) := rfl
    rw [e, Nat.ble_eq.mpr (Nat.not_lt.mp h)] at hq
    cases hq
theorem xkk172 {pc : Nat} {q : xQ} (hq : xins 172 pc = some q) : xok 172 pc q = true := by
  by_cases h : pc < 102
  · exact xck_use xk172_0 (by omega) (by omega) hq
  · have e : xins 172 pc = (bif Nat.ble 102 pc then none else _) := rfl
    rw [e, Nat.ble_eq.mpr (Nat.not_lt.mp h)] at hq
    cases hq
theorem xkk173 {pc : Nat} {q : xQ} (hq : xins 173 pc = some q) : xok 173 pc q = true := by
  by_cases h : pc < 40
  · exact xck_use xk173_0 (by omega) (by omega) hq
  · have e : xins 173 pc = (bif Nat.ble 40 pc then none else _) := rfl
    rw [e, Nat.ble_eq.mpr (Nat.not_lt.mp h)] at hq
    cases hq
theorem xkk174 {pc : Nat} {q : xQ} (hq : xins 174 pc = some q) : xok 174 pc q = true := by
  by_cases h : pc < 95
  · exact xck_use xk174_0 (by omega) (by omega) hq
  · have e : xins 174 pc = (bif Nat.ble 95 pc then none else _) := rfl
    rw [e, Nat.ble_eq.mpr (Nat.not_lt.mp h)] at hq
    cases hq
theorem xkk175 {pc : Nat} {q : xQ} (hq : xins 175 pc = some q) : xok 175 pc q = true := by
  by_cases h : pc < 119
  · exact xck_use xk175_0 (by omega) (by omega) hq
  · have e : xins 175 pc = (bif Nat.ble 119 pc then none else _) := rfl
    rw [e, Nat.ble_eq.mpr (Nat.not_lt.mp h)] at hq
    cases hq
theorem xkk176 {pc : Nat} {q : xQ} (hq : xins 176 pc = some q) : xok 176 pc q = true := by
  by_cases h : pc < 36
  · exact xck_use xk176_0 (by omega) (by omega) hq
  · have e : xins 176 pc = (bif Nat.ble 36 pc then none else _) := rfl
    rw [e, Nat.ble_eq.mpr (Nat.not_lt.mp h)] at hq
    cases hq
theorem xkk177 {pc : Nat} {q : xQ} (hq : xins 177 pc = some q) : xok 177 pc q = true := by
  by_cases h : pc < 12
  · exact xck_use xk177_0 (by omega) (by omega) hq
  · have e : xins 177 pc = (bif Nat.ble 12 pc then none else _) := rfl
    rw [e, Nat.ble_eq.mpr (Nat.not_lt.mp h)] at hq
    cases hq
theorem xkk178 {pc : Nat} {q : xQ} (hq : xins 178 pc = some q) : xok 178 pc q = true := by
  by_cases h : pc < 12
  · exact xck_use xk178_0 (by omega) (by omega) hq
  · have e : xins 178 pc = (bif Nat.ble 12 pc then none else _) := rfl
    rw [e, Nat.ble_eq.mpr (Nat.not_lt.mp h)] at hq
    cases hq
theorem xkk179 {pc : Nat} {q : xQ} (hq : xins 179 pc = some q) : xok 179 pc q = true := by
  by_cases h : pc < 20
  · exact xck_use xk179_0 (by omega) (by omega) hq
  · have e : xins 179 pc = (bif Nat.ble 20 pc then none else _) := rfl
    rw [e, Nat.ble_eq.mpr (Nat.not_lt.mp h)] at hq
    cases hq
theorem xkk180 {pc : Nat} {q : xQ} (hq : xins 180 pc = some q) : xok 180 pc q = true := by
  by_cases h : pc < 40
  · exact xck_use xk180_0 (by omega) (by omega) hq
  · have e : xins 180 pc = (bif Nat.ble 40 pc then none else _) := rfl
    rw [e, Nat.ble_eq.mpr (Nat.not_lt.mp h)] at hq
    cases hq
theorem xkk181 {pc : Nat} {q : xQ} (hq : xins 181 pc = some q) : xok 181 pc q = true := by
  by_cases h : pc < 63
  · exact xck_use xk181_0 (by omega) (by omega) hq
  · have e : xins 181 pc = (bif Nat.ble 63 pc then none else _) := rfl
    rw [e, Nat.ble_eq.mpr (Nat.not_lt.mp h)] at hq
    cases hq
theorem xkk182 {pc : Nat} {q : xQ} (hq : xins 182 pc = some q) : xok 182 pc q = true := by
  by_cases h : pc < 55
  · exact xck_use xk182_0 (by omega) (by omega) hq
  · have e : xins 182 pc = (bif Nat.ble 55 pc then none else _) := rfl
    rw [e, Nat.ble_eq.mpr (Nat.not_lt.mp h)] at hq
    cases hq
theorem xkk183 {pc : Nat} {q : xQ} (hq : xins 183 pc = some q) : xok 183 pc q = true := by
  by_cases h : pc < 39
  · exact xck_use xk183_0 (by omega) (by omega) hq
  · have e : xins 183 pc = (bif Nat.ble 39 pc then none else _) := rfl
    rw [e, Nat.ble_eq.mpr (Nat.not_lt.mp h)] at hq
    cases hq
theorem xkk184 {pc : Nat} {q : xQ} (hq : xins 184 pc = some q) : xok 184 pc q = true := by
  by_cases h : pc < 10
  · exact xck_use xk184_0 (by omega) (by omega) hq
  · have e : xins 184 pc = (bif Nat.ble 10 pc then none else _) := rfl
    rw [e, Nat.ble_eq.mpr (Nat.not_lt.mp h)] at hq
    cases hq
theorem xkk185 {pc : Nat} {q : xQ} (hq : xins 185 pc = some q) : xok 185 pc q = true := by
  by_cases h : pc < 132
  · by_cases q0 : pc < 120
    · exact xck_use xk185_0 (by omega) (by omega) hq
    exact xck_use xk185_120 (by omega) (by omega) hq
  · have e : xins 185 pc = (bif Nat.ble 132 pc then none else _) := rfl
    rw [e, Nat.ble_eq.mpr (Nat.not_lt.mp h)] at hq
    cases hq
theorem xkk186 {pc : Nat} {q : xQ} (hq : xins 186 pc = some q) : xok 186 pc q = true := by
  by_cases h : pc < 22
  · exact xck_use xk186_0 (by omega) (by omega) hq
  · have e : xins 186 pc = (bif Nat.ble 22 pc then none else _) := rfl
    rw [e, Nat.ble_eq.mpr (Nat.not_lt.mp h)] at hq
    cases hq
theorem xkk187 {pc : Nat} {q : xQ} (hq : xins 187 pc = some q) : xok 187 pc q = true := by
  by_cases h : pc < 116
  · exact xck_use xk187_0 (by omega) (by omega) hq
  · have e : xins 187 pc = (bif Nat.ble 116 pc then none else _) := rfl
    rw [e, Nat.ble_eq.mpr (Nat.not_lt.mp h)] at hq
    cases hq
theorem xkk188 {pc : Nat} {q : xQ} (hq : xins 188 pc = some q) : xok 188 pc q = true := by
  by_cases h : pc < 65
  · exact xck_use xk188_0 (by omega) (by omega) hq
  · have e : xins 188 pc = (bif Nat.ble 65 pc then none else _) := rfl
    rw [e, Nat.ble_eq.mpr (Nat.not_lt.mp h)] at hq
    cases hq
theorem xkk189 {pc : Nat} {q : xQ} (hq : xins 189 pc = some q) : xok 189 pc q = true := by
  by_cases h : pc < 214
  · by_cases q0 : pc < 120
    · exact xck_use xk189_0 (by omega) (by omega) hq
    exact xck_use xk189_120 (by omega) (by omega) hq
  · have e : xins 189 pc = (bif Nat.ble 214 pc then none else _) := rfl
    rw [e, Nat.ble_eq.mpr (Nat.not_lt.mp h)] at hq
    cases hq
theorem xkk190 {pc : Nat} {q : xQ} (hq : xins 190 pc = some q) : xok 190 pc q = true := by
  by_cases h : pc < 28
  · exact xck_use xk190_0 (by omega) (by omega) hq
  · have e : xins 190 pc = (bif Nat.ble 28 pc then none else _) := rfl
    rw [e, Nat.ble_eq.mpr (Nat.not_lt.mp h)] at hq
    cases hq
theorem xkk191 {pc : Nat} {q : xQ} (hq : xins 191 pc = some q) : xok 191 pc q = true := by
  by_cases h : pc < 63
  · exact xck_use xk191_0 (by omega) (by omega) hq
  · have e : xins 191 pc = (bif Nat.ble 63 pc then none else _) := rfl
    rw [e, Nat.ble_eq.mpr (Nat.not_lt.mp h)] at hq
    cases hq
theorem xkk192 {pc : Nat} {q : xQ} (hq : xins 192 pc = some q) : xok 192 pc q = true := by
  by_cases h : pc < 87
  · exact xck_use xk192_0 (by omega) (by omega) hq
  · have e : xins 192 pc = (bif Nat.ble 87 pc then none else _) := rfl
    rw [e, Nat.ble_eq.mpr (Nat.not_lt.mp h)] at hq
    cases hq
theorem xkk193 {pc : Nat} {q : xQ} (hq : xins 193 pc = some q) : xok 193 pc q = true := by
  by_cases h : pc < 30
  · exact xck_use xk193_0 (by omega) (by omega) hq
  · have e : xins 193 pc = (bif Nat.ble 30 pc then none else _) := rfl
    rw [e, Nat.ble_eq.mpr (Nat.not_lt.mp h)] at hq
    cases hq
theorem xkk194 {pc : Nat} {q : xQ} (hq : xins 194 pc = some q) : xok 194 pc q = true := by
  by_cases h : pc < 72
  · exact xck_use xk194_0 (by omega) (by omega) hq
  · have e : xins 194 pc = (bif Nat.ble 72 pc then none else _) := rfl
    rw [e, Nat.ble_eq.mpr (Nat.not_lt.mp h)] at hq
    cases hq
theorem xkk195 {pc : Nat} {q : xQ} (hq : xins 195 pc = some q) : xok 195 pc q = true := by
  by_cases h : pc < 32
  · exact xck_use xk195_0 (by omega) (by omega) hq
  · have e : xins 195 pc = (bif Nat.ble 32 pc then none else _) := rfl
    rw [e, Nat.ble_eq.mpr (Nat.not_lt.mp h)] at hq
    cases hq
theorem xkk196 {pc : Nat} {q : xQ} (hq : xins 196 pc = some q) : xok 196 pc q = true := by
  by_cases h : pc < 49
  · exact xck_use xk196_0 (by omega) (by omega) hq
  · have e : xins 196 pc = (bif Nat.ble 49 pc then none else _) := rfl
    rw [e, Nat.ble_eq.mpr (Nat.not_lt.mp h)] at hq
    cases hq
theorem xkk197 {pc : Nat} {q : xQ} (hq : xins 197 pc = some q) : xok 197 pc q = true := by
  by_cases h : pc < 41
  · exact xck_use xk197_0 (by omega) (by omega) hq
  · have e : xins 197 pc = (bif Nat.ble 41 pc then none else _) := rfl
    rw [e, Nat.ble_eq.mpr (Nat.not_lt.mp h)] at hq
    cases hq
theorem xkk198 {pc : Nat} {q : xQ} (hq : xins 198 pc = some q) : xok 198 pc q = true := by
  by_cases h : pc < 26
  · exact xck_use xk198_0 (by omega) (by omega) hq
  · have e : xins 198 pc = (bif Nat.ble 26 pc then none else _) := rfl
    rw [e, Nat.ble_eq.mpr (Nat.not_lt.mp h)] at hq
    cases hq
theorem xkk199 {pc : Nat} {q : xQ} (hq : xins 199 pc = some q) : xok 199 pc q = true := by
  by_cases h : pc < 129
  · by_cases q0 : pc < 120
    · exact xck_use xk199_0 (by omega) (by omega) hq
    exact xck_use xk199_120 (by omega) (by omega) hq
  · have e : xins 199 pc = (bif Nat.ble 129 pc then none else _) := rfl
    rw [e, Nat.ble_eq.mpr (Nat.not_lt.mp h)] at hq
    cases hq
theorem xkk200 {pc : Nat} {q : xQ} (hq : xins 200 pc = some q) : xok 200 pc q = true := by
  by_cases h : pc < 27
  · exact xck_use xk200_0 (by omega) (by omega) hq
  · have e : xins 200 pc = (bif Nat.ble 27 pc then none else _) := rfl
    rw [e, Nat.ble_eq.mpr (Nat.not_lt.mp h)] at hq
    cases hq
theorem xkk201 {pc : Nat} {q : xQ} (hq : xins 201 pc = some q) : xok 201 pc q = true := by
  by_cases h : pc < 36
  · exact xck_use xk201_0 (by omega) (by omega) hq
  · have e : xins 201 pc = (bif Nat.ble 36 pc then none else _) := rfl
    rw [e, Nat.ble_eq.mpr (Nat.not_lt.mp h)] at hq
    cases hq
theorem xkk202 {pc : Nat} {q : xQ} (hq : xins 202 pc = some q) : xok 202 pc q = true := by
  by_cases h : pc < 187
  · by_cases q0 : pc < 120
    · exact xck_use xk202_0 (by omega) (by omega) hq
    exact xck_use xk202_120 (by omega) (by omega) hq
  · have e : xins 202 pc = (bif Nat.ble 187 pc then none else _) := rfl
    rw [e, Nat.ble_eq.mpr (Nat.not_lt.mp h)] at hq
    cases hq
theorem xkk203 {pc : Nat} {q : xQ} (hq : xins 203 pc = some q) : xok 203 pc q = true := by
  by_cases h : pc < 35
  · exact xck_use xk203_0 (by omega) (by omega) hq
  · have e : xins 203 pc = (bif Nat.ble 35 pc then none else _) := rfl
    rw [e, Nat.ble_eq.mpr (Nat.not_lt.mp h)] at hq
    cases hq
theorem xkk204 {pc : Nat} {q : xQ} (hq : xins 204 pc = some q) : xok 204 pc q = true := by
  by_cases h : pc < 60
  · exact xck_use xk204_0 (by omega) (by omega) hq
  · have e : xins 204 pc = (bif Nat.ble 60 pc then none else _) := rfl
    rw [e, Nat.ble_eq.mpr (Nat.not_lt.mp h)] at hq
    cases hq
theorem xkk205 {pc : Nat} {q : xQ} (hq : xins 205 pc = some q) : xok 205 pc q = true := by
  by_cases h : pc < 40
  · exact xck_use xk205_0 (by omega) (by omega) hq
  · have e : xins 205 pc = (bif Nat.ble 40 pc then none else _) := rfl
    rw [e, Nat.ble_eq.mpr (Nat.not_lt.mp h)] at hq
    cases hq
theorem xkk206 {pc : Nat} {q : xQ} (hq : xins 206 pc = some q) : xok 206 pc q = true := by
  by_cases h : pc < 35
  · exact xck_use xk206_0 (by omega) (by omega) hq
  · have e : xins 206 pc = (bif Nat.ble 35 pc then none else _) := rfl
    rw [e, Nat.ble_eq.mpr (Nat.not_lt.mp h)] at hq
    cases hq
theorem xkk207 {pc : Nat} {q : xQ} (hq : xins 207 pc = some q) : xok 207 pc q = true := by
  by_cases h : pc < 67
  · exact xck_use xk207_0 (by omega) (by omega) hq
  · have e : xins 207 pc = (bif Nat.ble 67 pc then none else _) := rfl
    rw [e, Nat.ble_eq.mpr (Nat.not_lt.mp h)] at hq
    cases hq
theorem xkk208 {pc : Nat} {q : xQ} (hq : xins 208 pc = some q) : xok 208 pc q = true := by
  by_cases h : pc < 249
  · by_cases q0 : pc < 120
    · exact xck_use xk208_0 (by omega) (by omega) hq
    by_cases q120 : pc < 240
    · exact xck_use xk208_120 (by omega) (by omega) hq
    exact xck_use xk208_240 (by omega) (by omega) hq
  · have e : xins 208 pc = (bif Nat.ble 249 pc then none else _) := rfl
    rw [e, Nat.ble_eq.mpr (Nat.not_lt.mp h)] at hq
    cases hq
theorem xkk209 {pc : Nat} {q : xQ} (hq : xins 209 pc = some q) : xok 209 pc q = true := by
  by_cases h : pc < 50
  · exact xck_use xk209_0 (by omega) (by omega) hq
  · have e : xins 209 pc = (bif Nat.ble 50 pc then none else _) := rfl
    rw [e, Nat.ble_eq.mpr (Nat.not_lt.mp h)] at hq
    cases hq
theorem xkk210 {pc : Nat} {q : xQ} (hq : xins 210 pc = some q) : xok 210 pc q = true := by
  by_cases h : pc < 96
  · exact xck_use xk210_0 (by omega) (by omega) hq
  · have e : xins 210 pc = (bif Nat.ble 96 pc then none else _) := rfl
    rw [e, Nat.ble_eq.mpr (Nat.not_lt.mp h)] at hq
    cases hq
theorem xkk211 {pc : Nat} {q : xQ} (hq : xins 211 pc = some q) : xok 211 pc q = true := by
  by_cases h : pc < 138
  · by_cases q0 : pc < 120
    · exact xck_use xk211_0 (by omega) (by omega) hq
    exact xck_use xk211_120 (by omega) (by omega) hq
  · have e : xins 211 pc = (bif Nat.ble 138 pc then none else _) := rfl
    rw [e, Nat.ble_eq.mpr (Nat.not_lt.mp h)] at hq
    cases hq
theorem xkk212 {pc : Nat} {q : xQ} (hq : xins 212 pc = some q) : xok 212 pc q = true := by
  by_cases h : pc < 167
  · by_cases q0 : pc < 120
    · exact xck_use xk212_0 (by omega) (by omega) hq
    exact xck_use xk212_120 (by omega) (by omega) hq
  · have e : xins 212 pc = (bif Nat.ble 167 pc then none else _) := rfl
    rw [e, Nat.ble_eq.mpr (Nat.not_lt.mp h)] at hq
    cases hq
theorem xkk213 {pc : Nat} {q : xQ} (hq : xins 213 pc = some q) : xok 213 pc q = true := by
  by_cases h : pc < 51
  · exact xck_use xk213_0 (by omega) (by omega) hq
  · have e : xins 213 pc = (bif Nat.ble 51 pc then none else _) := rfl
    rw [e, Nat.ble_eq.mpr (Nat.not_lt.mp h)] at hq
    cases hq
theorem xkk214 {pc : Nat} {q : xQ} (hq : xins 214 pc = some q) : xok 214 pc q = true := by
  by_cases h : pc < 100
  · exact xck_use xk214_0 (by omega) (by omega) hq
  · have e : xins 214 pc = (bif Nat.ble 100 pc then none else _) := rfl
    rw [e, Nat.ble_eq.mpr (Nat.not_lt.mp h)] at hq
    cases hq
theorem xkk215 {pc : Nat} {q : xQ} (hq : xins 215 pc = some q) : xok 215 pc q = true := by
  by_cases h : pc < 44
  · exact xck_use xk215_0 (by omega) (by omega) hq
  · have e : xins 215 pc = (bif Nat.ble 44 pc then none else _) := rfl
    rw [e, Nat.ble_eq.mpr (Nat.not_lt.mp h)] at hq
    cases hq
theorem xkk216 {pc : Nat} {q : xQ} (hq : xins 216 pc = some q) : xok 216 pc q = true := by
  by_cases h : pc < 54
  · exact xck_use xk216_0 (by omega) (by omega) hq
  · have e : xins 216 pc = (bif Nat.ble 54 pc then none else _) := rfl
    rw [e, Nat.ble_eq.mpr (Nat.not_lt.mp h)] at hq
    cases hq
theorem xkk217 {pc : Nat} {q : xQ} (hq : xins 217 pc = some q) : xok 217 pc q = true := by
  by_cases h : pc < 181
  · by_cases q0 : pc < 120
    · exact xck_use xk217_0 (by omega) (by omega) hq
    exact xck_use xk217_120 (by omega) (by omega) hq
  · have e : xins 217 pc = (bif Nat.ble 181 pc then none else _) := rfl
    rw [e, Nat.ble_eq.mpr (Nat.not_lt.mp h)] at hq
    cases hq
theorem xkk218 {pc : Nat} {q : xQ} (hq : xins 218 pc = some q) : xok 218 pc q = true := by
  by_cases h : pc < 74
  · exact xck_use xk218_0 (by omega) (by omega) hq
  · have e : xins 218 pc = (bif Nat.ble 74 pc then none else _) := rfl
    rw [e, Nat.ble_eq.mpr (Nat.not_lt.mp h)] at hq
    cases hq
theorem xkk219 {pc : Nat} {q : xQ} (hq : xins 219 pc = some q) : xok 219 pc q = true := by
  by_cases h : pc < 232
  · by_cases q0 : pc < 120
    · exact xck_use xk219_0 (by omega) (by omega) hq
    exact xck_use xk219_120 (by omega) (by omega) hq
  · have e : xins 219 pc = (bif Nat.ble 232 pc then none else _) := rfl
    rw [e, Nat.ble_eq.mpr (Nat.not_lt.mp h)] at hq
    cases hq
theorem xkk220 {pc : Nat} {q : xQ} (hq : xins 220 pc = some q) : xok 220 pc q = true := by
  by_cases h : pc < 27
  · exact xck_use xk220_0 (by omega) (by omega) hq
  · have e : xins 220 pc = (bif Nat.ble 27 pc then none else _) := rfl
    rw [e, Nat.ble_eq.mpr (Nat.not_lt.mp h)] at hq
    cases hq
theorem xkk221 {pc : Nat} {q : xQ} (hq : xins 221 pc = some q) : xok 221 pc q = true := by
  by_cases h : pc < 58
  · exact xck_use xk221_0 (by omega) (by omega) hq
  · have e : xins 221 pc = (bif Nat.ble 58 pc then none else _) := rfl
    rw [e, Nat.ble_eq.mpr (Nat.not_lt.mp h)] at hq
    cases hq
theorem xkk222 {pc : Nat} {q : xQ} (hq : xins 222 pc = some q) : xok 222 pc q = true := by
  by_cases h : pc < 124
  · by_cases q0 : pc < 120
    · exact xck_use xk222_0 (by omega) (by omega) hq
    exact xck_use xk222_120 (by omega) (by omega) hq
  · have e : xins 222 pc = (bif Nat.ble 124 pc then none else _) := rfl
    rw [e, Nat.ble_eq.mpr (Nat.not_lt.mp h)] at hq
    cases hq
theorem xkk223 {pc : Nat} {q : xQ} (hq : xins 223 pc = some q) : xok 223 pc q = true := by
  by_cases h : pc < 67
  · exact xck_use xk223_0 (by omega) (by omega) hq
  · have e : xins 223 pc = (bif Nat.ble 67 pc then none else _) := rfl
    rw [e, Nat.ble_eq.mpr (Nat.not_lt.mp h)] at hq
    cases hq
theorem xkk224 {pc : Nat} {q : xQ} (hq : xins 224 pc = some q) : xok 224 pc q = true := by
  by_cases h : pc < 155
  · by_cases q0 : pc < 120
    · exact xck_use xk224_0 (by omega) (by omega) hq
    exact xck_use xk224_120 (by omega) (by omega) hq
  · have e : xins 224 pc = (bif Nat.ble 155 pc then none else _) := rfl
    rw [e, Nat.ble_eq.mpr (Nat.not_lt.mp h)] at hq
    cases hq
theorem xkk225 {pc : Nat} {q : xQ} (hq : xins 225 pc = some q) : xok 225 pc q = true := by
  by_cases h : pc < 39
  · exact xck_use xk225_0 (by omega) (by omega) hq
  · have e : xins 225 pc = (bif Nat.ble 39 pc then none else _) := rfl
    rw [e, Nat.ble_eq.mpr (Nat.not_lt.mp h)] at hq
    cases hq
theorem xkk226 {pc : Nat} {q : xQ} (hq : xins 226 pc = some q) : xok 226 pc q = true := by
  by_cases h : pc < 45
  · exact xck_use xk226_0 (by omega) (by omega) hq
  · have e : xins 226 pc = (bif Nat.ble 45 pc then none else _) := rfl
    rw [e, Nat.ble_eq.mpr (Nat.not_lt.mp h)] at hq
    cases hq
theorem xkk227 {pc : Nat} {q : xQ} (hq : xins 227 pc = some q) : xok 227 pc q = true := by
  by_cases h : pc < 170
  · by_cases q0 : pc < 120
    · exact xck_use xk227_0 (by omega) (by omega) hq
    exact xck_use xk227_120 (by omega) (by omega) hq
  · have e : xins 227 pc = (bif Nat.ble 170 pc then none else _) := rfl
    rw [e, Nat.ble_eq.mpr (Nat.not_lt.mp h)] at hq
    cases hq
theorem xkk228 {pc : Nat} {q : xQ} (hq : xins 228 pc = some q) : xok 228 pc q = true := by
  by_cases h : pc < 43
  · exact xck_use xk228_0 (by omega) (by omega) hq
  · have e : xins 228 pc = (bif Nat.ble 43 pc then none else _) := rfl
    rw [e, Nat.ble_eq.mpr (Nat.not_lt.mp h)] at hq
    cases hq
theorem xkk229 {pc : Nat} {q : xQ} (hq : xins 229 pc = some q) : xok 229 pc q = true := by
  by_cases h : pc < 200
  · by_cases q0 : pc < 120
    · exact xck_use xk229_0 (by omega) (by omega) hq
    exact xck_use xk229_120 (by omega) (by omega) hq
  · have e : xins 229 pc = (bif Nat.ble 200 pc then none else _) := rfl
    rw [e, Nat.ble_eq.mpr (Nat.not_lt.mp h)] at hq
    cases hq
theorem xkk230 {pc : Nat} {q : xQ} (hq : xins 230 pc = some q) : xok 230 pc q = true := by
  by_cases h : pc < 99
  · exact xck_use xk230_0 (by omega) (by omega) hq
  · have e : xins 230 pc = (bif Nat.ble 99 pc then none else _) := rfl
    rw [e, Nat.ble_eq.mpr (Nat.not_lt.mp h)] at hq
    cases hq
theorem xkk231 {pc : Nat} {q : xQ} (hq : xins 231 pc = some q) : xok 231 pc q = true := by
  by_cases h : pc < 76
  · exact xck_use xk231_0 (by omega) (by omega) hq
  · have e : xins 231 pc = (bif Nat.ble 76 pc then none else _) := rfl
    rw [e, Nat.ble_eq.mpr (Nat.not_lt.mp h)] at hq
    cases hq
theorem xkk232 {pc : Nat} {q : xQ} (hq : xins 232 pc = some q) : xok 232 pc q = true := by
  by_cases h : pc < 54
  · exact xck_use xk232_0 (by omega) (by omega) hq
  · have e : xins 232 pc = (bif Nat.ble 54 pc then none else _) := rfl
    rw [e, Nat.ble_eq.mpr (Nat.not_lt.mp h)] at hq
    cases hq
theorem xkk233 {pc : Nat} {q : xQ} (hq : xins 233 pc = some q) : xok 233 pc q = true := by
  by_cases h : pc < 83
  · exact xck_use xk233_0 (by omega) (by omega) hq
  · have e : xins 233 pc = (bif Nat.ble 83 pc then none else _) := rfl
    rw [e, Nat.ble_eq.mpr (Nat.not_lt.mp h)] at hq
    cases hq
theorem xkk234 {pc : Nat} {q : xQ} (hq : xins 234 pc = some q) : xok 234 pc q = true := by
  by_cases h : pc < 7
  · exact xck_use xk234_0 (by omega) (by omega) hq
  · have e : xins 234 pc = (bif Nat.ble 7 pc then none else _) := rfl
    rw [e, Nat.ble_eq.mpr (Nat.not_lt.mp h)] at hq
    cases hq
theorem xkk235 {pc : Nat} {q : xQ} (hq : xins 235 pc = some q) : xok 235 pc q = true := by
  by_cases h : pc < 76
  · exact xck_use xk235_0 (by omega) (by omega) hq
  · have e : xins 235 pc = (bif Nat.ble 76 pc then none else _) := rfl
    rw [e, Nat.ble_eq.mpr (Nat.not_lt.mp h)] at hq
    cases hq
theorem xkk236 {pc : Nat} {q : xQ} (hq : xins 236 pc = some q) : xok 236 pc q = true := by
  by_cases h : pc < 25
  · exact xck_use xk236_0 (by omega) (by omega) hq
  · have e : xins 236 pc = (bif Nat.ble 25 pc then none else _) := rfl
    rw [e, Nat.ble_eq.mpr (Nat.not_lt.mp h)] at hq
    cases hq
theorem xkr0 {j pc : Nat} {q : xQ} (h1 : 0 ≤ j) (h2 : j < 16) (hq : xins j pc = some q) : xok j pc q = true := by
  obtain ⟨i, rfl⟩ : ∃ i, j = 0 + i := ⟨j - 0, by omega⟩
  match i, h2, hq with
  | 0, _, hq => exact xkk0 hq
  | 1, _, hq => exact xkk1 hq
  | 2, _, hq => exact xkk2 hq
  | 3, _, hq => exact xkk3 hq
  | 4, _, hq => exact xkk4 hq
  | 5, _, hq => exact xkk5 hq
  | 6, _, hq => exact xkk6 hq
  | 7, _, hq => exact xkk7 hq
  | 8, _, hq => exact xkk8 hq
  | 9, _, hq => exact xkk9 hq
  | 10, _, hq => exact xkk10 hq
  | 11, _, hq => exact xkk11 hq
  | 12, _, hq => exact xkk12 hq
  | 13, _, hq => exact xkk13 hq
  | 14, _, hq => exact xkk14 hq
  | 15, _, hq => exact xkk15 hq
  | n + 16, h2, _ => omega
theorem xkr16 {j pc : Nat} {q : xQ} (h1 : 16 ≤ j) (h2 : j < 32) (hq : xins j pc = some q) : xok j pc q = true := by
  obtain ⟨i, rfl⟩ : ∃ i, j = 16 + i := ⟨j - 16, by omega⟩
  match i, h2, hq with
  | 0, _, hq => exact xkk16 hq
  | 1, _, hq => exact xkk17 hq
  | 2, _, hq => exact xkk18 hq
  | 3, _, hq => exact xkk19 hq
  | 4, _, hq => exact xkk20 hq
  | 5, _, hq => exact xkk21 hq
  | 6, _, hq => exact xkk22 hq
  | 7, _, hq => exact xkk23 hq
  | 8, _, hq => exact xkk24 hq
  | 9, _, hq => exact xkk25 hq
  | 10, _, hq => exact xkk26 hq
  | 11, _, hq => exact xkk27 hq
  | 12, _, hq => exact xkk28 hq
  | 13, _, hq => exact xkk29 hq
  | 14, _, hq => exact xkk30 hq
  | 15, _, hq => exact xkk31 hq
  | n + 16, h2, _ => omega
theorem xkr32 {j pc : Nat} {q : xQ} (h1 : 32 ≤ j) (h2 : j < 48) (hq : xins j pc = some q) : xok j pc q = true := by
  obtain ⟨i, rfl⟩ : ∃ i, j = 32 + i := ⟨j - 32, by omega⟩
  match i, h2, hq with
  | 0, _, hq => exact xkk32 hq
  | 1, _, hq => exact xkk33 hq
  | 2, _, hq => exact xkk34 hq
  | 3, _, hq => exact xkk35 hq
  | 4, _, hq => exact xkk36 hq
  | 5, _, hq => exact xkk37 hq
  | 6, _, hq => exact xkk38 hq
  | 7, _, hq => exact xkk39 hq
  | 8, _, hq => exact xkk40 hq
  | 9, _, hq => exact xkk41 hq
  | 10, _, hq => exact xkk42 hq
  | 11, _, hq => exact xkk43 hq
  | 12, _, hq => exact xkk44 hq
  | 13, _, hq => exact xkk45 hq
  | 14, _, hq => exact xkk46 hq
  | 15, _, hq => exact xkk47 hq
  | n + 16, h2, _ => omega
theorem xkr48 {j pc : Nat} {q : xQ} (h1 : 48 ≤ j) (h2 : j < 64) (hq : xins j pc = some q) : xok j pc q = true := by
  obtain ⟨i, rfl⟩ : ∃ i, j = 48 + i := ⟨j - 48, by omega⟩
  match i, h2, hq with
  | 0, _, hq => exact xkk48 hq
  | 1, _, hq => exact xkk49 hq
  | 2, _, hq => exact xkk50 hq
  | 3, _, hq => exact xkk51 hq
  | 4, _, hq => exact xkk52 hq
  | 5, _, hq => exact xkk53 hq
  | 6, _, hq => exact xkk54 hq
  | 7, _, hq => exact xkk55 hq
  | 8, _, hq => exact xkk56 hq
  | 9, _, hq => exact xkk57 hq
  | 10, _, hq => exact xkk58 hq
  | 11, _, hq => exact xkk59 hq
  | 12, _, hq => exact xkk60 hq
  | 13, _, hq => exact xkk61 hq
  | 14, _, hq => exact xkk62 hq
  | 15, _, hq => exact xkk63 hq
  | n + 16, h2, _ => omega
theorem xkr64 {j pc : Nat} {q : xQ} (h1 : 64 ≤ j) (h2 : j < 80) (hq : xins j pc = some q) : xok j pc q = true := by
  obtain ⟨i, rfl⟩ : ∃ i, j = 64 + i := ⟨j - 64, by omega⟩
  match i, h2, hq with
  | 0, _, hq => exact xkk64 hq
  | 1, _, hq => exact xkk65 hq
  | 2, _, hq => exact xkk66 hq
  | 3, _, hq => exact xkk67 hq
  | 4, _, hq => exact xkk68 hq
  | 5, _, hq => exact xkk69 hq
  | 6, _, hq => exact xkk70 hq
  | 7, _, hq => exact xkk71 hq
  | 8, _, hq => exact xkk72 hq
  | 9, _, hq => exact xkk73 hq
  | 10, _, hq => exact xkk74 hq
  | 11, _, hq => exact xkk75 hq
  | 12, _, hq => exact xkk76 hq
  | 13, _, hq => exact xkk77 hq
  | 14, _, hq => exact xkk78 hq
  | 15, _, hq => exact xkk79 hq
  | n + 16, h2, _ => omega
theorem xkr80 {j pc : Nat} {q : xQ} (h1 : 80 ≤ j) (h2 : j < 96) (hq : xins j pc = some q) : xok j pc q = true := by
  obtain ⟨i, rfl⟩ : ∃ i, j = 80 + i := ⟨j - 80, by omega⟩
  match i, h2, hq with
  | 0, _, hq => exact xkk80 hq
  | 1, _, hq => exact xkk81 hq
  | 2, _, hq => exact xkk82 hq
  | 3, _, hq => exact xkk83 hq
  | 4, _, hq => exact xkk84 hq
  | 5, _, hq => exact xkk85 hq
  | 6, _, hq => exact xkk86 hq
  | 7, _, hq => exact xkk87 hq
  | 8, _, hq => exact xkk88 hq
  | 9, _, hq => exact xkk89 hq
  | 10, _, hq => exact xkk90 hq
  | 11, _, hq => exact xkk91 hq
  | 12, _, hq => exact xkk92 hq
  | 13, _, hq => exact xkk93 hq
  | 14, _, hq => exact xkk94 hq
  | 15, _, hq => exact xkk95 hq
  | n + 16, h2, _ => omega
theorem xkr96 {j pc : Nat} {q : xQ} (h1 : 96 ≤ j) (h2 : j < 112) (hq : xins j pc = some q) : xok j pc q = true := by
  obtain ⟨i, rfl⟩ : ∃ i, j = 96 + i := ⟨j - 96, by omega⟩
  match i, h2, hq with
  | 0, _, hq => exact xkk96 hq
  | 1, _, hq => exact xkk97 hq
  | 2, _, hq => exact xkk98 hq
  | 3, _, hq => exact xkk99 hq
  | 4, _, hq => exact xkk100 hq
  | 5, _, hq => exact xkk101 hq
  | 6, _, hq => exact xkk102 hq
  | 7, _, hq => exact xkk103 hq
  | 8, _, hq => exact xkk104 hq
  | 9, _, hq => exact xkk105 hq
  | 10, _, hq => exact xkk106 hq
  | 11, _, hq => exact xkk107 hq
  | 12, _, hq => exact xkk108 hq
  | 13, _, hq => exact xkk109 hq
  | 14, _, hq => exact xkk110 hq
  | 15, _, hq => exact xkk111 hq
  | n + 16, h2, _ => omega
theorem xkr112 {j pc : Nat} {q : xQ} (h1 : 112 ≤ j) (h2 : j < 128) (hq : xins j pc = some q) : xok j pc q = true := by
  obtain ⟨i, rfl⟩ : ∃ i, j = 112 + i := ⟨j - 112, by omega⟩
  match i, h2, hq with
  | 0, _, hq => exact xkk112 hq
  | 1, _, hq => exact xkk113 hq
  | 2, _, hq => exact xkk114 hq
  | 3, _, hq => exact xkk115 hq
  | 4, _, hq => exact xkk116 hq
  | 5, _, hq => exact xkk117 hq
  | 6, _, hq => exact xkk118 hq
  | 7, _, hq => exact xkk119 hq
  | 8, _, hq => exact xkk120 hq
  | 9, _, hq => exact xkk121 hq
  | 10, _, hq => exact xkk122 hq
  | 11, _, hq => exact xkk123 hq
  | 12, _, hq => exact xkk124 hq
  | 13, _, hq => exact xkk125 hq
  | 14, _, hq => exact xkk126 hq
  | 15, _, hq => exact xkk127 hq
  | n + 16, h2, _ => omega
theorem xkr128 {j pc : Nat} {q : xQ} (h1 : 128 ≤ j) (h2 : j < 144) (hq : xins j pc = some q) : xok j pc q = true := by
  obtain ⟨i, rfl⟩ : ∃ i, j = 128 + i := ⟨j - 128, by omega⟩
  match i, h2, hq with
  | 0, _, hq => exact xkk128 hq
  | 1, _, hq => exact xkk129 hq
  | 2, _, hq => exact xkk130 hq
  | 3, _, hq => exact xkk131 hq
  | 4, _, hq => exact xkk132 hq
  | 5, _, hq => exact xkk133 hq
  | 6, _, hq => exact xkk134 hq
  | 7, _, hq => exact xkk135 hq
  | 8, _, hq => exact xkk136 hq
  | 9, _, hq => exact xkk137 hq
  | 10, _, hq => exact xkk138 hq
  | 11, _, hq => exact xkk139 hq
  | 12, _, hq => exact xkk140 hq
  | 13, _, hq => exact xkk141 hq
  | 14, _, hq => exact xkk142 hq
  | 15, _, hq => exact xkk143 hq
  | n + 16, h2, _ => omega
theorem xkr144 {j pc : Nat} {q : xQ} (h1 : 144 ≤ j) (h2 : j < 160) (hq : xins j pc = some q) : xok j pc q = true := by
  obtain ⟨i, rfl⟩ : ∃ i, j = 144 + i := ⟨j - 144, by omega⟩
  match i, h2, hq with
  | 0, _, hq => exact xkk144 hq
  | 1, _, hq => exact xkk145 hq
  | 2, _, hq => exact xkk146 hq
  | 3, _, hq => exact xkk147 hq
  | 4, _, hq => exact xkk148 hq
  | 5, _, hq => exact xkk149 hq
  | 6, _, hq => exact xkk150 hq
  | 7, _, hq => exact xkk151 hq
  | 8, _, hq => exact xkk152 hq
  | 9, _, hq => exact xkk153 hq
  | 10, _, hq => exact xkk154 hq
  | 11, _, hq => exact xkk155 hq
  | 12, _, hq => exact xkk156 hq
  | 13, _, hq => exact xkk157 hq
  | 14, _, hq => exact xkk158 hq
  | 15, _, hq => exact xkk159 hq
  | n + 16, h2, _ => omega
theorem xkr160 {j pc : Nat} {q : xQ} (h1 : 160 ≤ j) (h2 : j < 176) (hq : xins j pc = some q) : xok j pc q = true := by
  obtain ⟨i, rfl⟩ : ∃ i, j = 160 + i := ⟨j - 160, by omega⟩
  match i, h2, hq with
  | 0, _, hq => exact xkk160 hq
  | 1, _, hq => exact xkk161 hq
  | 2, _, hq => exact xkk162 hq
  | 3, _, hq => exact xkk163 hq
  | 4, _, hq => exact xkk164 hq
  | 5, _, hq => exact xkk165 hq
  | 6, _, hq => exact xkk166 hq
  | 7, _, hq => exact xkk167 hq
  | 8, _, hq => exact xkk168 hq
  | 9, _, hq => exact xkk169 hq
  | 10, _, hq => exact xkk170 hq
  | 11, _, hq => exact xkk171 hq
  | 12, _, hq => exact xkk172 hq
  | 13, _, hq => exact xkk173 hq
  | 14, _, hq => exact xkk174 hq
  | 15, _, hq => exact xkk175 hq
  | n + 16, h2, _ => omega
theorem xkr176 {j pc : Nat} {q : xQ} (h1 : 176 ≤ j) (h2 : j < 192) (hq : xins j pc = some q) : xok j pc q = true := by
  obtain ⟨i, rfl⟩ : ∃ i, j = 176 + i := ⟨j - 176, by omega⟩
  match i, h2, hq with
  | 0, _, hq => exact xkk176 hq
  | 1, _, hq => exact xkk177 hq
  | 2, _, hq => exact xkk178 hq
  | 3, _, hq => exact xkk179 hq
  | 4, _, hq => exact xkk180 hq
  | 5, _, hq => exact xkk181 hq
  | 6, _, hq => exact xkk182 hq
  | 7, _, hq => exact xkk183 hq
  | 8, _, hq => exact xkk184 hq
  | 9, _, hq => exact xkk185 hq
  | 10, _, hq => exact xkk186 hq
  | 11, _, hq => exact xkk187 hq
  | 12, _, hq => exact xkk188 hq
  | 13, _, hq => exact xkk189 hq
  | 14, _, hq => exact xkk190 hq
  | 15, _, hq => exact xkk191 hq
  | n + 16, h2, _ => omega
theorem xkr192 {j pc : Nat} {q : xQ} (h1 : 192 ≤ j) (h2 : j < 208) (hq : xins j pc = some q) : xok j pc q = true := by
  obtain ⟨i, rfl⟩ : ∃ i, j = 192 + i := ⟨j - 192, by omega⟩
  match i, h2, hq with
  | 0, _, hq => exact xkk192 hq
  | 1, _, hq => exact xkk193 hq
  | 2, _, hq => exact xkk194 hq
  | 3, _, hq => exact xkk195 hq
  | 4, _, hq => exact xkk196 hq
  | 5, _, hq => exact xkk197 hq
  | 6, _, hq => exact xkk198 hq
  | 7, _, hq => exact xkk199 hq
  | 8, _, hq => exact xkk200 hq
  | 9, _, hq => exact xkk201 hq
  | 10, _, hq => exact xkk202 hq
  | 11, _, hq => exact xkk203 hq
  | 12, _, hq => exact xkk204 hq
  | 13, _, hq => exact xkk205 hq
  | 14, _, hq => exact xkk206 hq
  | 15, _, hq => exact xkk207 hq
  | n + 16, h2, _ => omega
theorem xkr208 {j pc : Nat} {q : xQ} (h1 : 208 ≤ j) (h2 : j < 224) (hq : xins j pc = some q) : xok j pc q = true := by
  obtain ⟨i, rfl⟩ : ∃ i, j = 208 + i := ⟨j - 208, by omega⟩
  match i, h2, hq with
  | 0, _, hq => exact xkk208 hq
  | 1, _, hq => exact xkk209 hq
  | 2, _, hq => exact xkk210 hq
  | 3, _, hq => exact xkk211 hq
  | 4, _, hq => exact xkk212 hq
  | 5, _, hq => exact xkk213 hq
  | 6, _, hq => exact xkk214 hq
  | 7, _, hq => exact xkk215 hq
  | 8, _, hq => exact xkk216 hq
  | 9, _, hq => exact xkk217 hq
  | 10, _, hq => exact xkk218 hq
  | 11, _, hq => exact xkk219 hq
  | 12, _, hq => exact xkk220 hq
  | 13, _, hq => exact xkk221 hq
  | 14, _, hq => exact xkk222 hq
  | 15, _, hq => exact xkk223 hq
  | n + 16, h2, _ => omega
theorem xkr224 {j pc : Nat} {q : xQ} (h1 : 224 ≤ j) (h2 : j < 237) (hq : xins j pc = some q) : xok j pc q = true := by
  obtain ⟨i, rfl⟩ : ∃ i, j = 224 + i := ⟨j - 224, by omega⟩
  match i, h2, hq with
  | 0, _, hq => exact xkk224 hq
  | 1, _, hq => exact xkk225 hq
  | 2, _, hq => exact xkk226 hq
  | 3, _, hq => exact xkk227 hq
  | 4, _, hq => exact xkk228 hq
  | 5, _, hq => exact xkk229 hq
  | 6, _, hq => exact xkk230 hq
  | 7, _, hq => exact xkk231 hq
  | 8, _, hq => exact xkk232 hq
  | 9, _, hq => exact xkk233 hq
  | 10, _, hq => exact xkk234 hq
  | 11, _, hq => exact xkk235 hq
  | 12, _, hq => exact xkk236 hq
  | n + 13, h2, _ => omega
theorem xins_lt {j pc : Nat} {q : xQ} (hq : xins j pc = some q) : j < xMn := by
  by_cases h : j < 237
  · exact h
  · have e : xins j pc = (bif Nat.ble 237 j then none else _) := rfl
    rw [e, Nat.ble_eq.mpr (Nat.not_lt.mp h)] at hq
    cases hq
theorem xins_ok {j pc : Nat} {q : xQ} (hq : xins j pc = some q) : xok j pc q = true := by
  have h : j < 237 := xins_lt hq
  by_cases q0 : j < 16
  · exact xkr0 (by omega) q0 hq
  by_cases q16 : j < 32
  · exact xkr16 (by omega) q16 hq
  by_cases q32 : j < 48
  · exact xkr32 (by omega) q32 hq
  by_cases q48 : j < 64
  · exact xkr48 (by omega) q48 hq
  by_cases q64 : j < 80
  · exact xkr64 (by omega) q64 hq
  by_cases q80 : j < 96
  · exact xkr80 (by omega) q80 hq
  by_cases q96 : j < 112
  · exact xkr96 (by omega) q96 hq
  by_cases q112 : j < 128
  · exact xkr112 (by omega) q112 hq
  by_cases q128 : j < 144
  · exact xkr128 (by omega) q128 hq
  by_cases q144 : j < 160
  · exact xkr144 (by omega) q144 hq
  by_cases q160 : j < 176
  · exact xkr160 (by omega) q160 hq
  by_cases q176 : j < 192
  · exact xkr176 (by omega) q176 hq
  by_cases q192 : j < 208
  · exact xkr192 (by omega) q192 hq
  by_cases q208 : j < 224
  · exact xkr208 (by omega) q208 hq
  by_cases q224 : j < 237
  · exact xkr224 (by omega) q224 hq
  omega
