/-! classes: name, then each field: name, descriptor, final, type -/
def xf0 : List (String × String × Bool × FieldType) := [("tape", "LOneHead$Tape;", true, (.object "OneHead$Tape")), ("reader", "LOneHead$VillageReader;", true, (.object "OneHead$VillageReader")), ("tellings", "LOneHead$Tellings;", true, (.object "OneHead$Tellings")), ("fighting", "LOneHead$Fighting;", true, (.object "OneHead$Fighting")), ("chances", "LOneHead$Chances;", true, (.object "OneHead$Chances")), ("product", "LOneHead$Product;", true, (.object "OneHead$Product")), ("pieces", "LOneHead$Pieces;", true, (.object "OneHead$Pieces")), ("runner", "LOneHead$Runner;", true, (.object "OneHead$Runner")), ("village", "LOneHead$Village;", false, (.object "OneHead$Village")), ("spare", "LOneHead$Village;", false, (.object "OneHead$Village"))]
def xf1 : List (String × String × Bool × FieldType) := [("bytes", "[I", true, (.array .int)), ("length", "I", false, .int), ("next", "I", false, .int), ("kind", "I", false, .int), ("place", "I", false, .int), ("value", "J", false, .long)]
def xf2 : List (String × String × Bool × FieldType) := [("names", "[J", true, (.array .long)), ("holds", "[I", true, (.array .int)), ("dies", "[I", true, (.array .int)), ("firsts", "[I", true, (.array .int)), ("others", "[I", true, (.array .int)), ("hours", "[I", true, (.array .int)), ("chances", "[I", true, (.array .int)), ("froms", "[I", true, (.array .int)), ("fors", "[I", true, (.array .int)), ("byHours", "[I", true, (.array .int)), ("worths", "[I", true, (.array .int)), ("barred", "[I", true, (.array .int)), ("deadlines", "[I", true, (.array .int)), ("times", "LOneHead$Times;", true, (.object "OneHead$Times")), ("people", "I", false, .int), ("meetings", "I", false, .int), ("news", "I", false, .int), ("clauses", "I", false, .int)]
def xf3 : List (String × String × Bool × FieldType) := [("hours", "[I", true, (.array .int)), ("meetings", "[I", true, (.array .int)), ("firsts", "[I", true, (.array .int)), ("others", "[I", true, (.array .int)), ("chances", "[I", true, (.array .int)), ("size", "I", false, .int)]
def xf4 : List (String × String × Bool × FieldType) := [("tape", "LOneHead$Tape;", true, (.object "OneHead$Tape")), ("village", "LOneHead$Village;", false, (.object "OneHead$Village")), ("faultKind", "I", false, .int), ("faultPlace", "I", false, .int)]
def xf5 : List (String × String × Bool × FieldType) := [("times", "[I", true, (.array .int)), ("news", "[I", true, (.array .int)), ("with", "[I", true, (.array .int)), ("withByHour", "[I", true, (.array .int)), ("size", "I", false, .int), ("known", "Z", false, .boolean)]
def xf6 : List (String × String × Bool × FieldType) := [("with", "[I", true, (.array .int)), ("believing", "[I", true, (.array .int)), ("believers", "[I", true, (.array .int)), ("known", "Z", false, .boolean)]
def xf7 : List (String × String × Bool × FieldType) := [("limbs", "[J", true, (.array .long)), ("used", "I", false, .int)]
def xf8 : List (String × String × Bool × FieldType) := [("limbs", "[J", true, (.array .long)), ("used", "I", false, .int), ("tens", "I", false, .int)]
def xf9 : List (String × String × Bool × FieldType) := [("worth", "[I", true, (.array .int)), ("reached", "[I", true, (.array .int)), ("heads", "[I", true, (.array .int)), ("firstWith", "[I", true, (.array .int)), ("barredFrom", "[I", true, (.array .int)), ("reachedSize", "I", false, .int), ("greatest", "I", false, .int), ("changed", "Z", false, .boolean), ("known", "Z", false, .boolean), ("first", "I", false, .int), ("other", "I", false, .int), ("firstHolds", "I", false, .int), ("otherHolds", "I", false, .int), ("forFirst", "I", false, .int), ("forOther", "I", false, .int)]
def xf10 : List (String × String × Bool × FieldType) := [("kinds", "[I", true, (.array .int)), ("tellsTo", "[I", true, (.array .int)), ("chances", "LOneHead$Chances;", true, (.object "OneHead$Chances")), ("run", "LOneHead$Run;", true, (.object "OneHead$Run")), ("slotA", "LOneHead$Run;", true, (.object "OneHead$Run")), ("slotB", "LOneHead$Run;", true, (.object "OneHead$Run")), ("slotC", "LOneHead$Run;", true, (.object "OneHead$Run"))]
def xf11 : List (String × String × Bool × FieldType) := [("with", "[I", true, (.array .int)), ("tellings", "[I", true, (.array .int)), ("came", "[I", true, (.array .int)), ("tellers", "[I", true, (.array .int)), ("on", "Z", false, .boolean), ("next", "I", false, .int), ("living", "I", false, .int), ("seed", "J", false, .long)]
def xf12 : List (String × String × Bool × FieldType) := [("tape", "[B", true, (.array .byte)), ("taped", "I", false, .int), ("size", "I", false, .int), ("sort", "I", false, .int), ("key", "I", false, .int), ("at", "I", false, .int), ("end", "I", false, .int), ("number", "I", false, .int), ("faultKind", "I", false, .int), ("faultPlace", "I", false, .int), ("word", "J", false, .long), ("got", "I", false, .int), ("num", "[I", true, (.array .int)), ("names", "[J", true, (.array .long)), ("holds", "[I", true, (.array .int)), ("dies", "[I", true, (.array .int)), ("meetOne", "[I", true, (.array .int)), ("meetTwo", "[I", true, (.array .int)), ("meetHour", "[I", true, (.array .int)), ("meetChance", "[I", true, (.array .int)), ("newsFrom", "[I", true, (.array .int)), ("newsFor", "[I", true, (.array .int)), ("newsHour", "[I", true, (.array .int)), ("newsWorth", "[I", true, (.array .int)), ("newsBars", "[I", true, (.array .int)), ("clauses", "I", false, .int), ("times", "I", false, .int), ("timeMeeting", "[I", true, (.array .int)), ("timeHour", "[I", true, (.array .int)), ("newsTimes", "[I", true, (.array .int)), ("rows", "I", false, .int), ("rowTime", "[I", true, (.array .int)), ("rowNews", "[I", true, (.array .int)), ("keptKind", "I", false, .int), ("keptPlace", "I", false, .int), ("hasJudged", "Z", false, .boolean), ("where", "[I", true, (.array .int)), ("whereInTime", "[I", true, (.array .int)), ("chance", "[J", true, (.array .long)), ("scratch", "[J", true, (.array .long)), ("tens", "I", false, .int), ("now", "[I", true, (.array .int)), ("next", "[I", true, (.array .int)), ("isReached", "[Z", true, (.array .boolean)), ("isNext", "[Z", true, (.array .boolean)), ("place", "[I", true, (.array .int)), ("bestNext", "I", false, .int), ("marks", "Z", false, .boolean), ("many", "I", false, .int), ("row", "[I", true, (.array .int)), ("product", "[I", true, (.array .int)), ("hasFought", "Z", false, .boolean), ("believed", "[I", true, (.array .int)), ("trial", "[I", true, (.array .int)), ("ruleKind", "[I", true, (.array .int)), ("ruleK", "[I", true, (.array .int)), ("run", "[I", true, (.array .int)), ("seeds", "[J", true, (.array .long)), ("isKept", "[Z", true, (.array .boolean))]
def xfs (ci : Nat) : List (String × String × Bool × FieldType) := match ci with
  | 0 => xf0
  | 1 => xf1
  | 2 => xf2
  | 3 => xf3
  | 4 => xf4
  | 5 => xf5
  | 6 => xf6
  | 7 => xf7
  | 8 => xf8
  | 9 => xf9
  | 10 => xf10
  | 11 => xf11
  | 12 => xf12
  | _ => []
def xcn (ci : Nat) : String := match ci with
  | 0 => "OneHead"
  | 1 => "OneHead$Tape"
  | 2 => "OneHead$Village"
  | 3 => "OneHead$Times"
  | 4 => "OneHead$VillageReader"
  | 5 => "OneHead$Tellings"
  | 6 => "OneHead$Fighting"
  | 7 => "OneHead$Chances"
  | 8 => "OneHead$Product"
  | 9 => "OneHead$Pieces"
  | 10 => "OneHead$Runner"
  | 11 => "OneHead$Run"
  | 12 => "OneHeadModel"
  | _ => ""
def xfd (ci k : Nat) : String × String × Bool × FieldType := (xfs ci).getD k ("", "", false, .int)
def xT (ci : Nat) : u_T := fun k => (xcn ci, (xfd ci k).1, (xfd ci k).2.1, (xfd ci k).2.2.1)
def xty (ci k : Nat) : FieldType := (xfd ci k).2.2.2
def xnf (ci : Nat) : Nat := (xfs ci).length
def xcl : List vw_C := (List.range 13).map (fun ci => (xcn ci, xT ci, xnf ci))
theorem xcl_get {ci : Nat} (h : ci < 13) : xcl[ci]? = some (xcn ci, xT ci, xnf ci) := by simp [xcl, h]
theorem xcl_lt {ci : Nat} {q : vw_C} (h : xcl[ci]? = some q) : ci < 13 := by have := (List.getElem?_eq_some_iff.mp h).1; simpa [xcl] using this
theorem xcl_ty : ∀ ci, ci < 13 → ∀ k, k < xnf ci → parseFieldDescriptor (xT ci k).2.2.1 = some (xty ci k) := by decide +kernel
theorem xcl_nm : ∀ ci, ci < 13 → ∀ a, a < xnf ci → ∀ b, b < xnf ci → a ≠ b → (xT ci a).2.1 ≠ (xT ci b).2.1 := by decide +kernel
theorem xin0 : ∀ w ∈ u_ws (xcn 0) (xT 0) (xnf 0), w ∈ lw_tbl := by
  intro w hw
  have e : u_ws (xcn 0) (xT 0) (xnf 0) = [563, 565, 567, 569, 571, 573, 575, 577, 579, 581].filterMap (fun i => lw_tbl[i]?) := by decide +kernel
  rw [e] at hw
  obtain ⟨i, -, hi⟩ := List.mem_filterMap.mp hw
  exact List.mem_of_getElem? hi
theorem xin1 : ∀ w ∈ u_ws (xcn 1) (xT 1) (xnf 1), w ∈ lw_tbl := by
  intro w hw
  have e : u_ws (xcn 1) (xT 1) (xnf 1) = [150, 152, 154, 156, 158, 160].filterMap (fun i => lw_tbl[i]?) := by decide +kernel
  rw [e] at hw
  obtain ⟨i, -, hi⟩ := List.mem_filterMap.mp hw
  exact List.mem_of_getElem? hi
theorem xin2 : ∀ w ∈ u_ws (xcn 2) (xT 2) (xnf 2), w ∈ lw_tbl := by
  intro w hw
  have e : u_ws (xcn 2) (xT 2) (xnf 2) = [283, 285, 287, 289, 291, 293, 295, 297, 299, 301, 303, 305, 307, 309, 311, 313, 315, 317].filterMap (fun i => lw_tbl[i]?) := by decide +kernel
  rw [e] at hw
  obtain ⟨i, -, hi⟩ := List.mem_filterMap.mp hw
  exact List.mem_of_getElem? hi
theorem xin3 : ∀ w ∈ u_ws (xcn 3) (xT 3) (xnf 3), w ∈ lw_tbl := by
  intro w hw
  have e : u_ws (xcn 3) (xT 3) (xnf 3) = [200, 202, 204, 206, 208, 210].filterMap (fun i => lw_tbl[i]?) := by decide +kernel
  rw [e] at hw
  obtain ⟨i, -, hi⟩ := List.mem_filterMap.mp hw
  exact List.mem_of_getElem? hi
theorem xin4 : ∀ w ∈ u_ws (xcn 4) (xT 4) (xnf 4), w ∈ lw_tbl := by
  intro w hw
  have e : u_ws (xcn 4) (xT 4) (xnf 4) = [332, 334, 336, 338].filterMap (fun i => lw_tbl[i]?) := by decide +kernel
  rw [e] at hw
  obtain ⟨i, -, hi⟩ := List.mem_filterMap.mp hw
  exact List.mem_of_getElem? hi
theorem xin5 : ∀ w ∈ u_ws (xcn 5) (xT 5) (xnf 5), w ∈ lw_tbl := by
  intro w hw
  have e : u_ws (xcn 5) (xT 5) (xnf 5) = [360, 362, 364, 366, 368, 370].filterMap (fun i => lw_tbl[i]?) := by decide +kernel
  rw [e] at hw
  obtain ⟨i, -, hi⟩ := List.mem_filterMap.mp hw
  exact List.mem_of_getElem? hi
theorem xin6 : ∀ w ∈ u_ws (xcn 6) (xT 6) (xnf 6), w ∈ lw_tbl := by
  intro w hw
  have e : u_ws (xcn 6) (xT 6) (xnf 6) = [385, 387, 389, 391].filterMap (fun i => lw_tbl[i]?) := by decide +kernel
  rw [e] at hw
  obtain ⟨i, -, hi⟩ := List.mem_filterMap.mp hw
  exact List.mem_of_getElem? hi
theorem xin7 : ∀ w ∈ u_ws (xcn 7) (xT 7) (xnf 7), w ∈ lw_tbl := by
  intro w hw
  have e : u_ws (xcn 7) (xT 7) (xnf 7) = [402, 404].filterMap (fun i => lw_tbl[i]?) := by decide +kernel
  rw [e] at hw
  obtain ⟨i, -, hi⟩ := List.mem_filterMap.mp hw
  exact List.mem_of_getElem? hi
theorem xin8 : ∀ w ∈ u_ws (xcn 8) (xT 8) (xnf 8), w ∈ lw_tbl := by
  intro w hw
  have e : u_ws (xcn 8) (xT 8) (xnf 8) = [416, 418, 420].filterMap (fun i => lw_tbl[i]?) := by decide +kernel
  rw [e] at hw
  obtain ⟨i, -, hi⟩ := List.mem_filterMap.mp hw
  exact List.mem_of_getElem? hi
theorem xin9 : ∀ w ∈ u_ws (xcn 9) (xT 9) (xnf 9), w ∈ lw_tbl := by
  intro w hw
  have e : u_ws (xcn 9) (xT 9) (xnf 9) = [446, 448, 450, 452, 454, 456, 458, 460, 462, 464, 466, 468, 470, 472, 474].filterMap (fun i => lw_tbl[i]?) := by decide +kernel
  rw [e] at hw
  obtain ⟨i, -, hi⟩ := List.mem_filterMap.mp hw
  exact List.mem_of_getElem? hi
theorem xin10 : ∀ w ∈ u_ws (xcn 10) (xT 10) (xnf 10), w ∈ lw_tbl := by
  intro w hw
  have e : u_ws (xcn 10) (xT 10) (xnf 10) = [538, 540, 542, 544, 546, 548, 550].filterMap (fun i => lw_tbl[i]?) := by decide +kernel
  rw [e] at hw
  obtain ⟨i, -, hi⟩ := List.mem_filterMap.mp hw
  exact List.mem_of_getElem? hi
theorem xin11 : ∀ w ∈ u_ws (xcn 11) (xT 11) (xnf 11), w ∈ lw_tbl := by
  intro w hw
  have e : u_ws (xcn 11) (xT 11) (xnf 11) = [508, 510, 512, 514, 516, 518, 520, 522].filterMap (fun i => lw_tbl[i]?) := by decide +kernel
  rw [e] at hw
  obtain ⟨i, -, hi⟩ := List.mem_filterMap.mp hw
  exact List.mem_of_getElem? hi
theorem xin12 : ∀ w ∈ u_ws (xcn 12) (xT 12) (xnf 12), w ∈ lw_tbl := by
  intro w hw
  have e : u_ws (xcn 12) (xT 12) (xnf 12) = [1276, 1278, 1280, 1282, 1284, 1286, 1288, 1290, 1292, 1294, 1296, 1298, 1300, 1302, 1304, 1306, 1308, 1310, 1312, 1314, 1316, 1318, 1320, 1322, 1324, 1326, 1328, 1330, 1332, 1334, 1336, 1338, 1340, 1342, 1344, 1346, 1348, 1350, 1352, 1354, 1356, 1358, 1360, 1362, 1364, 1366, 1368, 1370, 1372, 1374, 1376, 1378, 1380, 1382, 1384, 1386, 1388, 1390, 1392].filterMap (fun i => lw_tbl[i]?) := by decide +kernel
  rw [e] at hw
  obtain ⟨i, -, hi⟩ := List.mem_filterMap.mp hw
  exact List.mem_of_getElem? hi
theorem xcl_in : ∀ ci, ci < 13 → ∀ w ∈ u_ws (xcn ci) (xT ci) (xnf ci), w ∈ lw_tbl := by
  intro ci h
  match ci, h with
  | 0, _ => exact xin0
  | 1, _ => exact xin1
  | 2, _ => exact xin2
  | 3, _ => exact xin3
  | 4, _ => exact xin4
  | 5, _ => exact xin5
  | 6, _ => exact xin6
  | 7, _ => exact xin7
  | 8, _ => exact xin8
  | 9, _ => exact xin9
  | 10, _ => exact xin10
  | 11, _ => exact xin11
  | 12, _ => exact xin12
  | n + 13, h => omega
def xpInst : List Nat := [125, 133, 165, 171, 321, 342, 374, 395, 408, 424, 478, 484, 1197]
def xpInit : List Nat := [102, 103, 104, 105, 106, 107, 108, 109, 110, 111, 112, 113, 115]
theorem xcl_ins : ∀ ci, ci < 13 → lw_tbl[xpInst.getD ci 0]? = some (.instantiable (xcn ci) (xnf ci)) := by decide +kernel
theorem xcl_ini : ∀ ci, ci < 13 → lw_tbl[xpInit.getD ci 0]? = some (.initialized (xcn ci)) := by decide +kernel
/-! shapes: what the cell of each number is, in the order in which they are made -/
def xs0 : List (Nat ⊕ (FieldType × Nat)) := [.inl 0, .inl 1, .inr (.int, 900), .inl 2, .inr (.long, 7), .inr (.int, 7), .inr (.int, 7), .inr (.int, 16), .inr (.int, 16), .inr (.int, 16), .inr (.int, 16), .inr (.int, 4)]
def xs1 : List (Nat ⊕ (FieldType × Nat)) := [.inr (.int, 4), .inr (.int, 4), .inr (.int, 4), .inr (.int, 4), .inr (.int, 4), .inl 3, .inr (.int, 64), .inr (.int, 64), .inr (.int, 64), .inr (.int, 64), .inr (.int, 64), .inl 2]
def xs2 : List (Nat ⊕ (FieldType × Nat)) := [.inr (.long, 7), .inr (.int, 7), .inr (.int, 7), .inr (.int, 16), .inr (.int, 16), .inr (.int, 16), .inr (.int, 16), .inr (.int, 4), .inr (.int, 4), .inr (.int, 4), .inr (.int, 4), .inr (.int, 4)]
def xs3 : List (Nat ⊕ (FieldType × Nat)) := [.inr (.int, 4), .inl 3, .inr (.int, 64), .inr (.int, 64), .inr (.int, 64), .inr (.int, 64), .inr (.int, 64), .inl 4, .inl 5, .inr (.int, 225), .inr (.int, 225), .inr (.int, 4)]
def xs4 : List (Nat ⊕ (FieldType × Nat)) := [.inr (.int, 4), .inl 6, .inr (.int, 2), .inr (.int, 2), .inr (.int, 2), .inl 7, .inr (.long, 81), .inl 8, .inr (.long, 82), .inl 9, .inr (.int, 2401), .inr (.int, 2401)]
def xs5 : List (Nat ⊕ (FieldType × Nat)) := [.inr (.int, 2401), .inr (.int, 112), .inr (.int, 7), .inl 10, .inr (.int, 7), .inr (.int, 7), .inl 11, .inr (.int, 4), .inr (.int, 4), .inr (.int, 4), .inr (.int, 4), .inl 11]
def xs6 : List (Nat ⊕ (FieldType × Nat)) := [.inr (.int, 4), .inr (.int, 4), .inr (.int, 4), .inr (.int, 4), .inl 11, .inr (.int, 4), .inr (.int, 4), .inr (.int, 4), .inr (.int, 4), .inl 11, .inr (.int, 4), .inr (.int, 4)]
def xs7 : List (Nat ⊕ (FieldType × Nat)) := [.inr (.int, 4), .inr (.int, 4), .inl 12, .inr (.byte, 900), .inr (.int, 6), .inr (.long, 7), .inr (.int, 14), .inr (.int, 14), .inr (.int, 32), .inr (.int, 32), .inr (.int, 32), .inr (.int, 32)]
def xs8 : List (Nat ⊕ (FieldType × Nat)) := [.inr (.int, 8), .inr (.int, 8), .inr (.int, 8), .inr (.int, 8), .inr (.int, 8), .inr (.int, 64), .inr (.int, 64), .inr (.int, 4), .inr (.int, 300), .inr (.int, 300), .inr (.int, 4), .inr (.int, 4)]
def xs9 : List (Nat ⊕ (FieldType × Nat)) := [.inr (.long, 224), .inr (.long, 16), .inr (.int, 2401), .inr (.int, 2401), .inr (.boolean, 2401), .inr (.boolean, 2401), .inr (.int, 4), .inr (.int, 900), .inr (.int, 402), .inr (.int, 2), .inr (.int, 2), .inr (.int, 7)]
def xs10 : List (Nat ⊕ (FieldType × Nat)) := [.inr (.int, 7), .inr (.int, 100), .inr (.long, 4), .inr (.boolean, 3)]
def xsr : List (List (Nat ⊕ (FieldType × Nat))) := [xs0, xs1, xs2, xs3, xs4, xs5, xs6, xs7, xs8, xs9, xs10]
def xsh (c : Nat) : Option (Nat ⊕ (FieldType × Nat)) := match xsr[c / 12]? with
  | some r => r[c % 12]?
  | none => none
def xN : Nat := 124
