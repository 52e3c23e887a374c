theorem xcl_df : ∀ ci, ci < 13 → ∀ k, k < xnf ci → (match xty ci k with | .int => true | .boolean => true | .long => true | .object _ => true | .array _ => true | _ => false) = true := by decide +kernel
theorem xpA_i : lw_tbl[163]? = some (.arrayClass .int) := by decide +kernel
theorem xpA_j : lw_tbl[213]? = some (.arrayClass .long) := by decide +kernel
theorem xpA_b : lw_tbl[776]? = some (.arrayClass .byte) := by decide +kernel
theorem xpA_z : lw_tbl[1395]? = some (.arrayClass .boolean) := by decide +kernel
