def sq_o : List String := ["OneHead$VillageReader", "OneHead$VillageReader", "OneHead$VillageReader", "OneHead$VillageReader", "OneHead$VillageReader", "OneHead$VillageReader", "OneHeadModel"]
def sq_i : List Nat := [39, 97, 48, 114, 53, 58, 140]
def sq_t (i : Nat) : Term := .string (sq_o.getD i "") (sq_i.getD i 0)
theorem sq_all : (lw_tbl.all fun w => match w with
  | .stringRef own idx tx => (List.range 7).any fun k => decide (own = sq_o.getD k "") && decide (idx = sq_i.getD k 0) && decide (tx = xstrs.getD k "")
  | _ => true) = true := by decide +kernel
theorem sq_uni : ∀ i, i < 7 → ∀ j, j < 7 → xstrs.getD i "" = xstrs.getD j "" → i = j := by decide +kernel
theorem sq_ref : ∀ k, k < 7 → (lw_tbl.any fun w => match w with
  | .stringRef own idx tx => decide (own = sq_o.getD k "") && decide (idx = sq_i.getD k 0) && decide (tx = xstrs.getD k "")
  | _ => false) = true := by decide +kernel
def gvF : List Cond := flatC (Jvm.Cond.and given_1 narrow_1)
theorem sq_f1 : ∀ i, i < 7 → Cond.exactly (sq_t i) "java/lang/String" ∈ gvF := by decide +kernel
theorem sq_f2 : ∀ i, i < 7 → Cond.eq (.field (sq_t i) "java/lang/String" "coder" "B") (.int 0) ∈ gvF := by decide +kernel
theorem sq_f3 : ∀ i, i < 7 → Cond.arrayOf (.field (sq_t i) "java/lang/String" "value" "[B") .byte ∈ gvF := by decide +kernel
theorem sq_f4 : ∀ i, i < 7 → Cond.eq (.length (.field (sq_t i) "java/lang/String" "value" "[B")) (.int (Int32.ofNat (xslens.getD i 0))) ∈ gvF := by decide +kernel
theorem sq_f5 : ∀ i, i < 7 → ∀ j, j < xslens.getD i 0 → Cond.eq (.elem (.field (sq_t i) "java/lang/String" "value" "[B") (.int (Int32.ofNat j))) (.int ((xsbyt.getD i []).getD j 0)) ∈ gvF := by decide +kernel
theorem sq_f6 : ∀ i, i < 7 → ∀ j, j < 7 → i ≠ j → Cond.not (Cond.eq (sq_t i) (sq_t j)) ∈ gvF ∨ Cond.not (Cond.eq (sq_t j) (sq_t i)) ∈ gvF := by decide +kernel
theorem sq_f7 : ∀ i, i < 7 → xslens.getD i 0 < 2 ^ 31 := by decide +kernel
theorem sq_g5 : ∀ j, j < 16 → Cond.eq (.elem (.static "OneHead$Pieces" "ONES" "[I") (.int (Int32.ofNat j))) (.int (xones j)) ∈ gvF := by decide +kernel
theorem xO_start {b : Nat} {s : State} (hts : ∀ w ∈ lw_tbl, w.before #[Value.ref b] s = true) (hgv : (Jvm.Cond.and given_1 narrow_1).before #[Value.ref b] s = true) : ∃ E : Nat → Nat, E 0 = b ∧ xO s.heap.size E s s.heap := by
  have hs : ∀ w ∈ gvF, w.before #[Value.ref b] s = true := flat_of_before _ hgv
  have hA : ∀ a : Nat, a < s.heap.size → ¬ (fun q : Nat => s.heap.size ≤ q) a := fun a ha h => Nat.lt_irrefl a (Nat.lt_of_lt_of_le ha h)
  obtain ⟨t1, ht1, hT⟩ := va_Tof (tm := .static "OneHead$Pieces" "ONES" "[I") (ty := .int) (N := 16) (f := fun j => .int (xones j)) (A := fun q => s.heap.size ≤ q) (by decide) (hs _ (by decide +kernel)) (va_eqt (hs (.eq (.length (.static "OneHead$Pieces" "ONES" "[I")) (.int (Int32.ofNat 16))) (by decide +kernel))) (fun j hj => va_eqt (hs _ (sq_g5 j hj))) hA
  have hZ := va_Zof (A := fun q => s.heap.size ≤ q) (hts _ (List.mem_of_getElem? (i := 952) (by decide +kernel))) (hts _ (List.mem_of_getElem? (i := 111) (by decide +kernel))) ht1 hA
  have hC : va_Z "java/lang/String" "COMPACT_STRINGS" "Z" (.int 1) (fun q => s.heap.size ≤ q) s s.heap := va_Zof (hts _ (List.mem_of_getElem? (i := 644) (by decide +kernel))) (hts _ (List.mem_of_getElem? (i := 116) (by decide +kernel))) (va_eqi (hs _ (by decide +kernel))) hA
  have hF : va_Zq "jdk/internal/util/Preconditions" "SIOOBE_FORMATTER" "Ljava/util/function/BiFunction;" (fun q => s.heap.size ≤ q) s s.heap := va_Zqof (hts _ (List.mem_of_getElem? (i := 660) (by decide +kernel))) (hts _ (List.mem_of_getElem? (i := 118) (by decide +kernel))) (hs _ (by decide +kernel)) hA
  obtain ⟨adK, adV, hS, hK⟩ := vk_Sof (N := 7) (tm := sq_t) (len := xslens) (byt := xsbyt) (A := fun q => s.heap.size ≤ q) sq_f7 (fun i hi => hs _ (sq_f1 i hi)) (fun i hi => hs _ (sq_f2 i hi)) (fun i hi => hs _ (sq_f3 i hi)) (fun i hi => hs _ (sq_f4 i hi)) (fun i hi j hj => hs _ (sq_f5 i hi j hj)) (fun i j hi hj hne => (sq_f6 i hi j hj hne).imp (fun h => hs _ h) (fun h => hs _ h)) hA
  refine ⟨fun q => match q with | 0 => b | 1 => t1 | k + 2 => adK k, rfl, hZ, hT, hC, ⟨adV, hS⟩, ?_, hF⟩
  intro i k own idx hw hk
  have hm := List.mem_of_getElem? hw
  have h1 := List.all_eq_true.mp sq_all _ hm
  obtain ⟨k', hk', h2⟩ := List.any_eq_true.mp h1
  rw [Bool.and_eq_true, Bool.and_eq_true, decide_eq_true_eq, decide_eq_true_eq, decide_eq_true_eq] at h2
  have e := sq_uni k hk k' (List.mem_range.mp hk') h2.2
  subst e
  refine vk_R.of (A := #[Value.ref b]) (hts _ hm) ?_
  have h3 := hK k hk
  unfold sq_t at h3
  rw [← h2.1.1, ← h2.1.2] at h3
  exact h3
