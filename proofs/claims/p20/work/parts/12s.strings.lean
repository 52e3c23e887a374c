abbrev s_c_len : ByteArray := prog_18_method_54_code
def s_y_len : MethodName := ⟨"java/lang/String", "length", "()I"⟩
theorem s_w_len : lw_tbl[638]? = some (.code s_y_len s_c_len 1 (some .int)) := by decide +kernel
theorem s_i_len : lw_tbl[636]? = some (.instanceMethod s_y_len) := by decide +kernel
theorem s_s_len : lw_tbl[637]? = some (.selects "java/lang/String" s_y_len s_y_len) := by decide +kernel
abbrev s_c_cod : ByteArray := prog_18_method_152_code
def s_y_cod : MethodName := ⟨"java/lang/String", "coder", "()B"⟩
theorem s_w_cod : lw_tbl[642]? = some (.code s_y_cod s_c_cod 1 (some .byte)) := by decide +kernel
theorem s_i_cod : lw_tbl[640]? = some (.instanceMethod s_y_cod) := by decide +kernel
theorem s_s_cod : lw_tbl[641]? = some (.selects "java/lang/String" s_y_cod s_y_cod) := by decide +kernel
abbrev s_c_cha : ByteArray := prog_18_method_56_code
def s_y_cha : MethodName := ⟨"java/lang/String", "charAt", "(I)C"⟩
theorem s_w_cha : lw_tbl[648]? = some (.code s_y_cha s_c_cha 2 (some .char)) := by decide +kernel
theorem s_i_cha : lw_tbl[646]? = some (.instanceMethod s_y_cha) := by decide +kernel
theorem s_s_cha : lw_tbl[647]? = some (.selects "java/lang/String" s_y_cha s_y_cha) := by decide +kernel
abbrev s_c_lat : ByteArray := prog_18_method_154_code
def s_y_lat : MethodName := ⟨"java/lang/String", "isLatin1", "()Z"⟩
theorem s_w_lat : lw_tbl[652]? = some (.code s_y_lat s_c_lat 1 (some .boolean)) := by decide +kernel
theorem s_i_lat : lw_tbl[650]? = some (.instanceMethod s_y_lat) := by decide +kernel
theorem s_s_lat : lw_tbl[651]? = some (.selects "java/lang/String" s_y_lat s_y_lat) := by decide +kernel
abbrev s_c_lch : ByteArray := prog_19_method_2_code
def s_y_lch : MethodName := ⟨"java/lang/StringLatin1", "charAt", "([BI)C"⟩
theorem s_w_lch : lw_tbl[655]? = some (.code s_y_lch s_c_lch 2 (some .char)) := by decide +kernel
theorem s_i_lch : lw_tbl[654]? = some (.static s_y_lch) := by decide +kernel
abbrev s_c_chk : ByteArray := prog_18_method_155_code
def s_y_chk : MethodName := ⟨"java/lang/String", "checkIndex", "(II)V"⟩
theorem s_w_chk : lw_tbl[658]? = some (.code s_y_chk s_c_chk 2 none) := by decide +kernel
theorem s_i_chk : lw_tbl[657]? = some (.static s_y_chk) := by decide +kernel
abbrev s_c_pck : ByteArray := prog_23_method_11_code
def s_y_pck : MethodName := ⟨"jdk/internal/util/Preconditions", "checkIndex", "(IILjava/util/function/BiFunction;)I"⟩
theorem s_w_pck : lw_tbl[663]? = some (.code s_y_pck s_c_pck 3 (some .int)) := by decide +kernel
theorem s_i_pck : lw_tbl[662]? = some (.static s_y_pck) := by decide +kernel
theorem s_n_S : lw_tbl[116]? = some (.initialized "java/lang/String") := by decide +kernel
theorem s_n_L1 : lw_tbl[117]? = some (.initialized "java/lang/StringLatin1") := by decide +kernel
theorem s_n_PR : lw_tbl[118]? = some (.initialized "jdk/internal/util/Preconditions") := by decide +kernel
theorem s_d_len_0 : decode s_c_len 0 = .ok (.aload_n 0, 1) := by decide +kernel
theorem s_d_len_1 : decode s_c_len 1 = .ok (.getfield 9, 3) := by decide +kernel
theorem s_d_len_4 : decode s_c_len 4 = .ok (.arraylength, 1) := by decide +kernel
theorem s_d_len_5 : decode s_c_len 5 = .ok (.aload_n 0, 1) := by decide +kernel
theorem s_d_len_6 : decode s_c_len 6 = .ok (.invokevirtual 335, 3) := by decide +kernel
theorem s_d_len_9 : decode s_c_len 9 = .ok (.ishr, 1) := by decide +kernel
theorem s_d_len_10 : decode s_c_len 10 = .ok (.ireturn, 1) := by decide +kernel
theorem s_d_cod_0 : decode s_c_cod 0 = .ok (.getstatic 38, 3) := by decide +kernel
theorem s_d_cod_3 : decode s_c_cod 3 = .ok (.ifCond .eq (10), 3) := by decide +kernel
theorem s_d_cod_6 : decode s_c_cod 6 = .ok (.aload_n 0, 1) := by decide +kernel
theorem s_d_cod_7 : decode s_c_cod 7 = .ok (.getfield 15, 3) := by decide +kernel
theorem s_d_cod_10 : decode s_c_cod 10 = .ok (.goto (4), 3) := by decide +kernel
theorem s_d_cod_13 : decode s_c_cod 13 = .ok (.iconst (1), 1) := by decide +kernel
theorem s_d_cod_14 : decode s_c_cod 14 = .ok (.ireturn, 1) := by decide +kernel
theorem s_d_cha_0 : decode s_c_cha 0 = .ok (.aload_n 0, 1) := by decide +kernel
theorem s_d_cha_1 : decode s_c_cha 1 = .ok (.invokevirtual 492, 3) := by decide +kernel
theorem s_d_cha_4 : decode s_c_cha 4 = .ok (.ifCond .eq (12), 3) := by decide +kernel
theorem s_d_cha_7 : decode s_c_cha 7 = .ok (.aload_n 0, 1) := by decide +kernel
theorem s_d_cha_8 : decode s_c_cha 8 = .ok (.getfield 9, 3) := by decide +kernel
theorem s_d_cha_11 : decode s_c_cha 11 = .ok (.iload_n 1, 1) := by decide +kernel
theorem s_d_cha_12 : decode s_c_cha 12 = .ok (.invokestatic 495, 3) := by decide +kernel
theorem s_d_cha_15 : decode s_c_cha 15 = .ok (.ireturn, 1) := by decide +kernel
theorem s_d_cha_16 : decode s_c_cha 16 = .ok (.aload_n 0, 1) := by decide +kernel
theorem s_d_cha_17 : decode s_c_cha 17 = .ok (.getfield 9, 3) := by decide +kernel
theorem s_d_cha_20 : decode s_c_cha 20 = .ok (.iload_n 1, 1) := by decide +kernel
theorem s_d_cha_21 : decode s_c_cha 21 = .ok (.invokestatic 498, 3) := by decide +kernel
theorem s_d_cha_24 : decode s_c_cha 24 = .ok (.ireturn, 1) := by decide +kernel
theorem s_d_lat_0 : decode s_c_lat 0 = .ok (.getstatic 38, 3) := by decide +kernel
theorem s_d_lat_3 : decode s_c_lat 3 = .ok (.ifCond .eq (14), 3) := by decide +kernel
theorem s_d_lat_6 : decode s_c_lat 6 = .ok (.aload_n 0, 1) := by decide +kernel
theorem s_d_lat_7 : decode s_c_lat 7 = .ok (.getfield 15, 3) := by decide +kernel
theorem s_d_lat_10 : decode s_c_lat 10 = .ok (.ifCond .ne (7), 3) := by decide +kernel
theorem s_d_lat_13 : decode s_c_lat 13 = .ok (.iconst (1), 1) := by decide +kernel
theorem s_d_lat_14 : decode s_c_lat 14 = .ok (.goto (4), 3) := by decide +kernel
theorem s_d_lat_17 : decode s_c_lat 17 = .ok (.iconst (0), 1) := by decide +kernel
theorem s_d_lat_18 : decode s_c_lat 18 = .ok (.ireturn, 1) := by decide +kernel
theorem s_d_lch_0 : decode s_c_lch 0 = .ok (.iload_n 1, 1) := by decide +kernel
theorem s_d_lch_1 : decode s_c_lch 1 = .ok (.aload_n 0, 1) := by decide +kernel
theorem s_d_lch_2 : decode s_c_lch 2 = .ok (.arraylength, 1) := by decide +kernel
theorem s_d_lch_3 : decode s_c_lch 3 = .ok (.invokestatic 9, 3) := by decide +kernel
theorem s_d_lch_6 : decode s_c_lch 6 = .ok (.aload_n 0, 1) := by decide +kernel
theorem s_d_lch_7 : decode s_c_lch 7 = .ok (.iload_n 1, 1) := by decide +kernel
theorem s_d_lch_8 : decode s_c_lch 8 = .ok (.baload, 1) := by decide +kernel
theorem s_d_lch_9 : decode s_c_lch 9 = .ok (.sipush (255), 3) := by decide +kernel
theorem s_d_lch_12 : decode s_c_lch 12 = .ok (.iand, 1) := by decide +kernel
theorem s_d_lch_13 : decode s_c_lch 13 = .ok (.i2c, 1) := by decide +kernel
theorem s_d_lch_14 : decode s_c_lch 14 = .ok (.ireturn, 1) := by decide +kernel
theorem s_d_chk_0 : decode s_c_chk 0 = .ok (.iload_n 0, 1) := by decide +kernel
theorem s_d_chk_1 : decode s_c_chk 1 = .ok (.iload_n 1, 1) := by decide +kernel
theorem s_d_chk_2 : decode s_c_chk 2 = .ok (.getstatic 1053, 3) := by decide +kernel
theorem s_d_chk_5 : decode s_c_chk 5 = .ok (.invokestatic 1059, 3) := by decide +kernel
theorem s_d_chk_8 : decode s_c_chk 8 = .ok (.pop, 1) := by decide +kernel
theorem s_d_chk_9 : decode s_c_chk 9 = .ok (.return_, 1) := by decide +kernel
theorem s_d_pck_0 : decode s_c_pck 0 = .ok (.iload_n 0, 1) := by decide +kernel
theorem s_d_pck_1 : decode s_c_pck 1 = .ok (.ifCond .lt (8), 3) := by decide +kernel
theorem s_d_pck_4 : decode s_c_pck 4 = .ok (.iload_n 0, 1) := by decide +kernel
theorem s_d_pck_5 : decode s_c_pck 5 = .ok (.iload_n 1, 1) := by decide +kernel
theorem s_d_pck_6 : decode s_c_pck 6 = .ok (.if_icmp .lt (10), 3) := by decide +kernel
theorem s_d_pck_9 : decode s_c_pck 9 = .ok (.aload_n 2, 1) := by decide +kernel
theorem s_d_pck_10 : decode s_c_pck 10 = .ok (.iload_n 0, 1) := by decide +kernel
theorem s_d_pck_11 : decode s_c_pck 11 = .ok (.iload_n 1, 1) := by decide +kernel
theorem s_d_pck_12 : decode s_c_pck 12 = .ok (.invokestatic 95, 3) := by decide +kernel
theorem s_d_pck_16 : decode s_c_pck 16 = .ok (.iload_n 0, 1) := by decide +kernel
theorem s_d_pck_17 : decode s_c_pck 17 = .ok (.ireturn, 1) := by decide +kernel
theorem s_f_cs : lw_tbl[643]? = some (.fieldLink "java/lang/String" 38 "java/lang/String" "COMPACT_STRINGS" "Z") := by decide +kernel
theorem s_f_co : lw_tbl[1773]? = some (.fieldLink "java/lang/String" 15 "java/lang/String" "coder" "B") := by decide +kernel
theorem s_f_va : lw_tbl[1772]? = some (.fieldLink "java/lang/String" 9 "java/lang/String" "value" "[B") := by decide +kernel
theorem s_f_fo : lw_tbl[659]? = some (.fieldLink "java/lang/String" 1053 "jdk/internal/util/Preconditions" "SIOOBE_FORMATTER" "Ljava/util/function/BiFunction;") := by decide +kernel
theorem s_m_cd : lw_tbl[639]? = some (.methodLink "java/lang/String" 335 s_y_cod) := by decide +kernel
theorem s_m_la : lw_tbl[649]? = some (.methodLink "java/lang/String" 492 s_y_lat) := by decide +kernel
theorem s_m_lc : lw_tbl[653]? = some (.methodLink "java/lang/String" 495 s_y_lch) := by decide +kernel
theorem s_m_ck : lw_tbl[656]? = some (.methodLink "java/lang/StringLatin1" 9 s_y_chk) := by decide +kernel
theorem s_m_pc : lw_tbl[661]? = some (.methodLink "java/lang/String" 1059 s_y_pck) := by decide +kernel
/-! contracts of the texts' methods: nothing is written -/
def sPc (B0 : Nat) (E : Nat → Nat) (as : List Value) : Array Value → State → Prop := fun a U => a = as.toArray ∧ xO B0 E U U.heap
def sQ (v : Option Value) : Array Value → State → Outcome → State → Prop := fun _ st o t => o = .returned v ∧ t.heap = st.heap
def sRm (d : Nat) : Room := { frames := d, cells := 0, slots := 0, locals := 64 * d }
theorem sPc_blind {B0 : Nat} {E : Nat → Nat} {as : List Value} : FrameBlind (sPc B0 E as) := fun a U g mk q => ⟨q.1, xO.same (s := U) (U := U.calling g mk a) rfl q.2⟩
theorem s_after {p : Program} {l : Launch} {e : Env} {R : Room} {s : State} {m : MethodId} {args : Array Value} {below : List Frame} {meth : Method} {c : Code} {H : Heap} {locs : List Loc} {cells slots pc : Nat} {Q : State → Prop} {ls : Array Slot} {st0 rest : List Value} {v : Option Value} {av : Array Value}
    (hr : va_Run p l e R s m args below meth c H locs cells slots 0 0 (F0 m pc ls st0) rest (sQ v av) (fun _ => False))
    (kk : W p l e R s m args below meth c H locs cells slots Q (F0 m (pc + 3) ls (v.toList ++ rest))) : W p l e R s m args below meth c H locs cells slots Q (F0 m pc ls st0) := by
  intro T hT X
  obtain ⟨w, st₀, t, T', LL, h0, X', hL, e1, e2, ⟨hv, hh⟩, st⟩ := hr T hT X
  cases hv
  obtain ⟨t2, a1, b1⟩ := kk T' (by rw [e1, hh, h0]) (Stand.forget X' (fun q h => (hL q h).elim))
  exact ⟨t2, st t2 a1, b1⟩
theorem s_good {y : MethodName} {b : ByteArray} {n i : Nat} {r : Option FieldType} (h : lw_tbl[i]? = some (.code y b n r)) : GoodIn xgw (Cond.code y b n r :: xgw) := by
  intro w hw
  rcases List.mem_cons.mp hw with rfl | hw
  · have hm : Cond.code y b n r ∈ xgw := List.mem_filter.mpr ⟨List.mem_of_getElem? h, rfl⟩
    exact ⟨hm, good_of_word (List.mem_filter.mp hm).2⟩
  · exact ⟨hw, good_of_word (List.mem_filter.mp hw).2⟩
set_option maxHeartbeats 4000000 in
/-- coder(): 0 -/
theorem s_cod {l : Launch} {B0 : Nat} {E : Nat → Nat} {k : Nat} (hk : k < 7) : Met l s_y_cod (Cond.code s_y_cod s_c_cod 1 (some .byte) :: xgw) (sRm 0) (sPc B0 E [.ref (E (k + 2))]) (sQ (some (.int 0))) 0 0 (fun _ => False) := by
  refine Met.ofW (cc := s_c_cod) (maxL := 1) (ret := some .byte) (by decide) rfl ?_
  intro p e s m args below meth c s₁ B hml hv
  obtain ⟨rfl, hO⟩ := hv
  have hx := B.exec
  have hb := B.bytes
  have hret := B.returns
  have hlocks := B.notSynchronized
  have hts : ∀ w ∈ xgw, w.before _ s = true := fun w hw => atoms_spec (ws := Cond.code s_y_cod s_c_cod 1 (some .byte) :: xgw) B.pre w (List.mem_cons_of_mem _ hw)
  have hown : s.vm.findClass "java/lang/String" = some m.cls := findClass_of_methodNamed B.named
  obtain ⟨-, -, hC, ⟨adV, hS⟩, -⟩ := hO
  have hS0 : va_S (fun q => B0 ≤ q) s.heap s.heap [] := va_S.rf
  have hl := lv_entry ([.ref (E (k + 2))]) (n := 1) (Nat.le_of_ble_eq_true rfl)
  rw [lg_entry_eq]
  generalize (lg_sl ([.ref (E (k + 2))]) ++ List.replicate (1 - (lg_sl ([.ref (E (k + 2))])).length) Slot.unset).toArray = ls at hl ⊢
  have hl : lv_has ls 1 [(0, .ref (E (k + 2)))] := hl
  refine va_gets hx hb hC hS0 hown (xword hts s_f_cs rfl) (fun _ h => h) s_d_cod_0 ?_
  refine lv_if_eq (tgt := 13) hx hb s_d_cod_3 (by decide) (fun z => absurd z (by decide)) (fun _ => ?_)
  refine lv_aload_n hx hb s_d_cod_6 rfl (lv_at hl 0 rfl) ?_
  refine vk_getf hx hb (hS.1 k hk).2.1 hS0 hown (xword hts s_f_co rfl) (fun _ h => h) s_d_cod_7 ?_
  refine lv_goto (tgt := 14) hx hb s_d_cod_10 (by decide) ?_
  exact W.zret (v := 0) hx hb hret rfl (fun t ht _ => ⟨rfl, ht⟩) (fun _ h => by cases h) s_d_cod_14
set_option maxHeartbeats 4000000 in
/-- isLatin1(): 1 -/
theorem s_lat {l : Launch} {B0 : Nat} {E : Nat → Nat} {k : Nat} (hk : k < 7) : Met l s_y_lat (Cond.code s_y_lat s_c_lat 1 (some .boolean) :: xgw) (sRm 0) (sPc B0 E [.ref (E (k + 2))]) (sQ (some (.int 1))) 0 0 (fun _ => False) := by
  refine Met.ofW (cc := s_c_lat) (maxL := 1) (ret := some .boolean) (by decide) rfl ?_
  intro p e s m args below meth c s₁ B hml hv
  obtain ⟨rfl, hO⟩ := hv
  have hx := B.exec
  have hb := B.bytes
  have hret := B.returns
  have hlocks := B.notSynchronized
  have hts : ∀ w ∈ xgw, w.before _ s = true := fun w hw => atoms_spec (ws := Cond.code s_y_lat s_c_lat 1 (some .boolean) :: xgw) B.pre w (List.mem_cons_of_mem _ hw)
  have hown : s.vm.findClass "java/lang/String" = some m.cls := findClass_of_methodNamed B.named
  obtain ⟨-, -, hC, ⟨adV, hS⟩, -⟩ := hO
  have hS0 : va_S (fun q => B0 ≤ q) s.heap s.heap [] := va_S.rf
  have hl := lv_entry ([.ref (E (k + 2))]) (n := 1) (Nat.le_of_ble_eq_true rfl)
  rw [lg_entry_eq]
  generalize (lg_sl ([.ref (E (k + 2))]) ++ List.replicate (1 - (lg_sl ([.ref (E (k + 2))])).length) Slot.unset).toArray = ls at hl ⊢
  have hl : lv_has ls 1 [(0, .ref (E (k + 2)))] := hl
  refine va_gets hx hb hC hS0 hown (xword hts s_f_cs rfl) (fun _ h => h) s_d_lat_0 ?_
  refine lv_if_eq (tgt := 17) hx hb s_d_lat_3 (by decide) (fun z => absurd z (by decide)) (fun _ => ?_)
  refine lv_aload_n hx hb s_d_lat_6 rfl (lv_at hl 0 rfl) ?_
  refine vk_getf hx hb (hS.1 k hk).2.1 hS0 hown (xword hts s_f_co rfl) (fun _ h => h) s_d_lat_7 ?_
  refine lv_if_ne (tgt := 17) hx hb s_d_lat_10 (by decide) (fun z => absurd rfl z) (fun _ => ?_)
  refine lv_iconst (v := 1) hx hb s_d_lat_13 (by decide) ?_
  refine lv_goto (tgt := 18) hx hb s_d_lat_14 (by decide) ?_
  exact W.zret (v := 1) hx hb hret rfl (fun t ht _ => ⟨rfl, ht⟩) (fun _ h => by cases h) s_d_lat_18
set_option maxHeartbeats 4000000 in
/-- Preconditions.checkIndex(i, n, ..): i, where 0 ≤ i < n -/
theorem s_pck {l : Launch} {B0 : Nat} {E : Nat → Nat} {i n : Int32} {v : Value} (hv0 : v = .null ∨ ∃ a, v = .ref a) (h1 : ¬ i < 0) (h2 : i < n) : Met l s_y_pck (Cond.code s_y_pck s_c_pck 3 (some .int) :: xgw) (sRm 0) (sPc B0 E [.int i, .int n, v]) (sQ (some (.int i))) 0 0 (fun _ => False) := by
  refine Met.ofW (cc := s_c_pck) (maxL := 3) (ret := some .int) (by decide) rfl ?_
  intro p e s m args below meth c s₁ B hml hv
  obtain ⟨rfl, hO⟩ := hv
  have hx := B.exec
  have hb := B.bytes
  have hret := B.returns
  have hlocks := B.notSynchronized
  have hc : v.category = 1 := by rcases hv0 with rfl | ⟨a, rfl⟩ <;> rfl
  have hl := lv_entry ([.int i, .int n, v]) (n := 3) (by rcases hv0 with rfl | ⟨a, rfl⟩ <;> exact Nat.le_of_ble_eq_true rfl)
  rw [lg_entry_eq]
  generalize (lg_sl ([.int i, .int n, v]) ++ List.replicate (3 - (lg_sl ([.int i, .int n, v])).length) Slot.unset).toArray = ls at hl ⊢
  have hl : lv_has ls 3 [(0, .int i), (1, .int n), (2, v)] := hl
  refine lv_iload_n hx hb s_d_pck_0 rfl (lv_at hl 0 rfl) ?_
  refine lv_if_lt (tgt := 9) hx hb s_d_pck_1 (by decide) (fun z => absurd z h1) (fun _ => ?_)
  refine lv_iload_n hx hb s_d_pck_4 rfl (lv_at hl 0 rfl) ?_
  refine lv_iload_n hx hb s_d_pck_5 rfl (lv_at hl 1 rfl) ?_
  refine lv_icmp_lt (tgt := 16) hx hb s_d_pck_6 (by decide) (fun _ => ?_) (fun z => absurd h2 z)
  refine lv_iload_n hx hb s_d_pck_16 rfl (lv_at hl 0 rfl) ?_
  exact W.iret (v := i) hx hb hret (fun t ht _ => ⟨rfl, ht⟩) (fun _ h => by cases h) s_d_pck_17
set_option maxHeartbeats 4000000 in
/-- String.checkIndex(i, n): nothing, where 0 ≤ i < n -/
theorem s_chk {l : Launch} {B0 : Nat} {E : Nat → Nat} {i n : Int32} (h1 : ¬ i < 0) (h2 : i < n) : Met l s_y_chk (Cond.code s_y_chk s_c_chk 2 none :: xgw) (sRm 1) (sPc B0 E [.int i, .int n]) (sQ none) 0 0 (fun _ => False) := by
  refine Met.ofW (cc := s_c_chk) (maxL := 2) (ret := none) (by decide) rfl ?_
  intro p e s m args below meth c s₁ B hml hv
  obtain ⟨rfl, hO⟩ := hv
  have hx := B.exec
  have hb := B.bytes
  have hret := B.returns
  have hlocks := B.notSynchronized
  have hts : ∀ w ∈ xgw, w.before _ s = true := fun w hw => atoms_spec (ws := Cond.code s_y_chk s_c_chk 2 none :: xgw) B.pre w (List.mem_cons_of_mem _ hw)
  have hown : s.vm.findClass "java/lang/String" = some m.cls := findClass_of_methodNamed B.named
  have hO0 := hO
  obtain ⟨-, -, -, -, -, hF⟩ := hO
  have hS0 : va_S (fun q => B0 ≤ q) s.heap s.heap [] := va_S.rf
  have hl := lv_entry ([.int i, .int n]) (n := 2) (Nat.le_of_ble_eq_true rfl)
  rw [lg_entry_eq]
  generalize (lg_sl ([.int i, .int n]) ++ List.replicate (2 - (lg_sl ([.int i, .int n])).length) Slot.unset).toArray = ls at hl ⊢
  have hl : lv_has ls 2 [(0, .int i), (1, .int n)] := hl
  have fix : CallFix p m c s_c_chk 2 s (#[.int i, .int n] : Array Value) xgw "java/lang/String" := ⟨hx, hb, hml, hown, hts⟩
  have go : ∀ v : Value, (v = .null ∨ ∃ a, v = .ref a) → va_Z "jdk/internal/util/Preconditions" "SIOOBE_FORMATTER" "Ljava/util/function/BiFunction;" v (fun q => B0 ≤ q) s s.heap → W p l e (sRm 1) s m #[.int i, .int n] below meth c s.heap [] 0 0 (MQ below (sQ none) #[.int i, .int n] s 0 0 (fun _ => False)) (F0 m 0 ls []) := by
    intro v hv0 hZ
    refine lv_iload_n hx hb s_d_chk_0 rfl (lv_at hl 0 rfl) ?_
    refine lv_iload_n hx hb s_d_chk_1 rfl (lv_at hl 1 rfl) ?_
    refine va_gets hx hb hZ hS0 hown (xword hts s_f_fo rfl) (fun _ h => h) s_d_chk_2 ?_
    refine s_after (v := some (.int i)) (va_runS (As := [.int i, .int n, v]) (rest := []) fix (s_pck (l := l) (B0 := B0) (E := E) hv0 h1 h2) ⟨callB_of (bytes := s_c_pck) (maxL := 3) (ret := some .int) (ws' := xgw) 3 hts (s_good s_w_pck) rfl rfl rfl (xword hts s_n_PR rfl) (xword hts s_m_pc rfl) ⟨by decide, by decide, by decide +kernel⟩ ⟨Nat.le_of_ble_eq_true rfl, Nat.le_of_ble_eq_true rfl⟩, xword hts s_i_pck rfl⟩ ⟨sPc_blind, fun U hU hW => ⟨rfl, by rw [hU]; exact xO.warm hW hO0⟩⟩ rfl rfl hl.1 rfl (by show 2 * 0 + 0 ≤ 8; omega) s_d_chk_5 ⟨Nat.le_refl _, Nat.le_refl _⟩) ?_
    refine lv_pop hx hb s_d_chk_8 rfl ?_
    exact W.vret hx hb hret (fun t ht _ => ⟨rfl, ht⟩) (fun _ h => by cases h) s_d_chk_9
  rcases hF with hZ | ⟨t, hZ⟩
  · exact go _ (Or.inl rfl) hZ
  · exact go _ (Or.inr ⟨t, rfl⟩) hZ
set_option maxHeartbeats 4000000 in
/-- length() -/
theorem s_len {l : Launch} {B0 : Nat} {E : Nat → Nat} {k : Nat} (hk : k < 7) : Met l s_y_len (Cond.code s_y_len s_c_len 1 (some .int) :: xgw) (sRm 1) (sPc B0 E [.ref (E (k + 2))]) (sQ (some (.int (Int32.ofNat (xslen k))))) 0 0 (fun _ => False) := by
  refine Met.ofW (cc := s_c_len) (maxL := 1) (ret := some .int) (by decide) rfl ?_
  intro p e s m args below meth c s₁ B hml hv
  obtain ⟨rfl, hO⟩ := hv
  have hx := B.exec
  have hb := B.bytes
  have hret := B.returns
  have hlocks := B.notSynchronized
  have hts : ∀ w ∈ xgw, w.before _ s = true := fun w hw => atoms_spec (ws := Cond.code s_y_len s_c_len 1 (some .int) :: xgw) B.pre w (List.mem_cons_of_mem _ hw)
  have hown : s.vm.findClass "java/lang/String" = some m.cls := findClass_of_methodNamed B.named
  have hO0 := hO
  obtain ⟨-, -, hC, ⟨adV, hS⟩, -⟩ := hO
  have hS0 : va_S (fun q => B0 ≤ q) s.heap s.heap [] := va_S.rf
  have hl := lv_entry ([.ref (E (k + 2))]) (n := 1) (Nat.le_of_ble_eq_true rfl)
  rw [lg_entry_eq]
  generalize (lg_sl ([.ref (E (k + 2))]) ++ List.replicate (1 - (lg_sl ([.ref (E (k + 2))])).length) Slot.unset).toArray = ls at hl ⊢
  have hl : lv_has ls 1 [(0, .ref (E (k + 2)))] := hl
  have fix : CallFix p m c s_c_len 1 s (#[.ref (E (k + 2))] : Array Value) xgw "java/lang/String" := ⟨hx, hb, hml, hown, hts⟩
  refine lv_aload_n hx hb s_d_len_0 rfl (lv_at hl 0 rfl) ?_
  refine vk_getf hx hb (hS.1 k hk).2.2.1 hS0 hown (xword hts s_f_va rfl) (fun _ h => h) s_d_len_1 ?_
  refine va_tlen hx hb (hS.1 k hk).2.2.2 hS0 rfl s_d_len_4 ?_
  refine lv_aload_n hx hb s_d_len_5 rfl (lv_at hl 0 rfl) ?_
  refine s_after (v := some (.int 0)) (va_runV (C := "java/lang/String") (As := []) (b := E (k + 2)) (rest := [.int (Int32.ofNat (xslens.getD k 0))]) fix (s_cod (l := l) (B0 := B0) (E := E) hk) ⟨callB_of (bytes := s_c_cod) (maxL := 1) (ret := some .byte) (ws' := xgw) 0 hts (s_good s_w_cod) rfl rfl rfl (xword hts s_n_S rfl) (xword hts s_m_cd rfl) ⟨by decide, by decide, by decide +kernel⟩ ⟨Nat.le_of_ble_eq_true rfl, Nat.le_of_ble_eq_true rfl⟩, xword hts s_i_cod rfl, xword hts s_s_cod rfl⟩ ⟨sPc_blind, vk_recv (adK := fun x => E (x + 2)) (i := k) hS hk hS0, fun U hU hW => ⟨rfl, by rw [hU]; exact xO.warm hW hO0⟩⟩ rfl rfl hl.1 rfl (by show 2 * 0 + 1 ≤ 8; omega) s_d_len_6 ⟨Nat.le_refl _, Nat.le_refl _⟩) ?_
  refine lv_ishr hx hb s_d_len_9 ?_
  have e0 : Int32.ofNat (xslens.getD k 0) >>> ((0 : Int32) &&& 31) = Int32.ofNat (xslen k) := sb_shr0 _
  exact W.iret (v := Int32.ofNat (xslens.getD k 0) >>> ((0 : Int32) &&& 31)) hx hb hret (fun t ht _ => ⟨by rw [e0], ht⟩) (fun _ h => by cases h) s_d_len_10
theorem s_in {i : Int32} {n : Nat} (hn : n < 2 ^ 31) (h : vp_in i n) : ¬ i < 0 ∧ i < Int32.ofNat n := by
  obtain ⟨j, hj, rfl⟩ := vp_in_of h hn
  exact ⟨nI_pos (by omega), nI_lt hj hn⟩
theorem s_all : ∀ k, k < 7 → xslens.getD k 0 < 2 ^ 31 ∧ ∀ i, i < xslens.getD k 0 → 0 ≤ ((xsbyt.getD k []).getD i 0).toInt ∧ ((xsbyt.getD k []).getD i 0).toInt < 128 := by
  intro k hk
  refine ⟨(show ∀ k, k < 7 → xslens.getD k 0 < 2 ^ 31 by decide +kernel) k hk, (show ∀ k, k < 7 → ∀ i, i < xslens.getD k 0 → 0 ≤ ((xsbyt.getD k []).getD i 0).toInt ∧ ((xsbyt.getD k []).getD i 0).toInt < 128 by decide +kernel) k hk⟩
theorem s_ch : ∀ k, k < 7 → ∀ i, i < xslens.getD k 0 → (((xsbyt.getD k []).getD i 0 &&& 255).toUInt32 % 65536).toInt32 = xsch k i ∧ narrow .char (.int (xsch k i)) = .int (xsch k i) := by decide +kernel
set_option maxHeartbeats 4000000 in
/-- StringLatin1.charAt(value, i) -/
theorem s_lch {l : Launch} {B0 : Nat} {E : Nat → Nat} {k a : Nat} {i : Int32} (hk : k < 7) (hi : vp_in i (xslens.getD k 0)) : Met l s_y_lch (Cond.code s_y_lch s_c_lch 2 (some .char) :: xgw) (sRm 2) (fun v U => sPc B0 E [.ref a, .int i] v U ∧ va_T .byte a (xslens.getD k 0) (fun j => .int ((xsbyt.getD k []).getD j 0)) (fun q => B0 ≤ q) U U.heap) (sQ (some (.int (xsch k i.toNatClampNeg)))) 0 0 (fun _ => False) := by
  refine Met.ofW (cc := s_c_lch) (maxL := 2) (ret := some .char) (by decide) rfl ?_
  intro p e s m args below meth c s₁ B hml hv
  obtain ⟨⟨rfl, hO⟩, hTa⟩ := hv
  have hx := B.exec
  have hb := B.bytes
  have hret := B.returns
  have hlocks := B.notSynchronized
  have hts : ∀ w ∈ xgw, w.before _ s = true := fun w hw => atoms_spec (ws := Cond.code s_y_lch s_c_lch 2 (some .char) :: xgw) B.pre w (List.mem_cons_of_mem _ hw)
  have hown : s.vm.findClass "java/lang/StringLatin1" = some m.cls := findClass_of_methodNamed B.named
  have hS0 : va_S (fun q => B0 ≤ q) s.heap s.heap [] := va_S.rf
  have hl := lv_entry ([.ref a, .int i]) (n := 2) (Nat.le_of_ble_eq_true rfl)
  rw [lg_entry_eq]
  generalize (lg_sl ([.ref a, .int i]) ++ List.replicate (2 - (lg_sl ([.ref a, .int i])).length) Slot.unset).toArray = ls at hl ⊢
  have hl : lv_has ls 2 [(0, .ref a), (1, .int i)] := hl
  obtain ⟨hi1, hi2⟩ := s_in (s_all k hk).1 hi
  have hlt : i.toNatClampNeg < xslens.getD k 0 := Nat.not_le.mp fun z => hi (Or.inr z)
  have fix : CallFix p m c s_c_lch 2 s (#[.ref a, .int i] : Array Value) xgw "java/lang/StringLatin1" := ⟨hx, hb, hml, hown, hts⟩
  refine lv_iload_n hx hb s_d_lch_0 rfl (lv_at hl 1 rfl) ?_
  refine lv_aload_n hx hb s_d_lch_1 rfl (lv_at hl 0 rfl) ?_
  refine va_tlen hx hb hTa hS0 rfl s_d_lch_2 ?_
  refine s_after (v := none) (va_runS (As := [.int i, .int (Int32.ofNat (xslens.getD k 0))]) (rest := []) fix (s_chk (l := l) (B0 := B0) (E := E) hi1 hi2) ⟨callB_of (bytes := s_c_chk) (maxL := 2) (ret := none) (ws' := xgw) 2 hts (s_good s_w_chk) rfl rfl rfl (xword hts s_n_S rfl) (xword hts s_m_ck rfl) ⟨by decide, by decide, by decide +kernel⟩ ⟨Nat.le_of_ble_eq_true rfl, Nat.le_of_ble_eq_true rfl⟩, xword hts s_i_chk rfl⟩ ⟨sPc_blind, fun U hU hW => ⟨rfl, by rw [hU]; exact xO.warm hW hO⟩⟩ rfl rfl hl.1 rfl (by show 2 * 0 + 0 ≤ 8; omega) s_d_lch_3 ⟨Nat.le_refl _, Nat.le_refl _⟩) ?_
  refine lv_aload_n hx hb s_d_lch_6 rfl (lv_at hl 0 rfl) ?_
  refine lv_iload_n hx hb s_d_lch_7 rfl (lv_at hl 1 rfl) ?_
  refine va_tb hx hb hTa hS0 hi rfl s_d_lch_8 ?_
  refine lv_sipush (v := 255) hx hb s_d_lch_9 (by decide) ?_
  refine lv_iand hx hb s_d_lch_12 ?_
  obtain ⟨e1, e2⟩ := s_ch k hk _ hlt
  refine lv_i2c hx hb s_d_lch_13 e1 ?_
  exact W.zret (v := xsch k i.toNatClampNeg) hx hb hret e2 (fun t ht _ => ⟨rfl, ht⟩) (fun _ h => by cases h) s_d_lch_14
set_option maxHeartbeats 4000000 in
/-- charAt(i) -/
theorem s_cha {l : Launch} {B0 : Nat} {E : Nat → Nat} {k : Nat} {i : Int32} (hk : k < 7) (hi : vp_in i (xslen k)) : Met l s_y_cha (Cond.code s_y_cha s_c_cha 2 (some .char) :: xgw) (sRm 3) (sPc B0 E [.ref (E (k + 2)), .int i]) (sQ (some (.int (xsch k i.toNatClampNeg)))) 0 0 (fun _ => False) := by
  refine Met.ofW (cc := s_c_cha) (maxL := 2) (ret := some .char) (by decide) rfl ?_
  intro p e s m args below meth c s₁ B hml hv
  obtain ⟨rfl, hO⟩ := hv
  have hx := B.exec
  have hb := B.bytes
  have hret := B.returns
  have hlocks := B.notSynchronized
  have hts : ∀ w ∈ xgw, w.before _ s = true := fun w hw => atoms_spec (ws := Cond.code s_y_cha s_c_cha 2 (some .char) :: xgw) B.pre w (List.mem_cons_of_mem _ hw)
  have hown : s.vm.findClass "java/lang/String" = some m.cls := findClass_of_methodNamed B.named
  have hO0 := hO
  obtain ⟨-, -, hC, ⟨adV, hS⟩, -⟩ := hO
  have hS0 : va_S (fun q => B0 ≤ q) s.heap s.heap [] := va_S.rf
  have hl := lv_entry ([.ref (E (k + 2)), .int i]) (n := 2) (Nat.le_of_ble_eq_true rfl)
  rw [lg_entry_eq]
  generalize (lg_sl ([.ref (E (k + 2)), .int i]) ++ List.replicate (2 - (lg_sl ([.ref (E (k + 2)), .int i])).length) Slot.unset).toArray = ls at hl ⊢
  have hl : lv_has ls 2 [(0, .ref (E (k + 2))), (1, .int i)] := hl
  have fix : CallFix p m c s_c_cha 2 s (#[.ref (E (k + 2)), .int i] : Array Value) xgw "java/lang/String" := ⟨hx, hb, hml, hown, hts⟩
  have hlt : i.toNatClampNeg < xslens.getD k 0 := Nat.not_le.mp fun z => hi (Or.inr z)
  refine lv_aload_n hx hb s_d_cha_0 rfl (lv_at hl 0 rfl) ?_
  refine s_after (v := some (.int 1)) (va_runV (C := "java/lang/String") (As := []) (b := E (k + 2)) (rest := []) fix (s_lat (l := l) (B0 := B0) (E := E) hk) ⟨callB_of (bytes := s_c_lat) (maxL := 1) (ret := some .boolean) (ws' := xgw) 0 hts (s_good s_w_lat) rfl rfl rfl (xword hts s_n_S rfl) (xword hts s_m_la rfl) ⟨by decide, by decide, by decide +kernel⟩ ⟨Nat.le_of_ble_eq_true rfl, Nat.le_of_ble_eq_true rfl⟩, xword hts s_i_lat rfl, xword hts s_s_lat rfl⟩ ⟨sPc_blind, vk_recv (adK := fun x => E (x + 2)) (i := k) hS hk hS0, fun U hU hW => ⟨rfl, by rw [hU]; exact xO.warm hW hO0⟩⟩ rfl rfl hl.1 rfl (by show 2 * 0 + 0 ≤ 8; omega) s_d_cha_1 ⟨Nat.le_refl _, Nat.le_refl _⟩) ?_
  refine lv_if_eq (tgt := 16) hx hb s_d_cha_4 (by decide) (fun z => absurd z (by decide)) (fun _ => ?_)
  refine lv_aload_n hx hb s_d_cha_7 rfl (lv_at hl 0 rfl) ?_
  refine vk_getf hx hb (hS.1 k hk).2.2.1 hS0 hown (xword hts s_f_va rfl) (fun _ h => h) s_d_cha_8 ?_
  refine lv_iload_n hx hb s_d_cha_11 rfl (lv_at hl 1 rfl) ?_
  have hbl : FrameBlind (fun v U => sPc B0 E [.ref (adV k), .int i] v U ∧ va_T .byte (adV k) (xslens.getD k 0) (fun j => .int ((xsbyt.getD k []).getD j 0)) (fun q => B0 ≤ q) U U.heap) := fun a U g mk q => ⟨sPc_blind a U g mk q.1, va_T.moved (u := U) (U := U.calling g mk a) (Vm.Alike.refl U.vm) q.2⟩
  refine s_after (v := some (.int (xsch k i.toNatClampNeg))) (va_runS (As := [.ref (adV k), .int i]) (rest := []) fix (s_lch (l := l) (B0 := B0) (E := E) (a := adV k) hk hi) ⟨callB_of (bytes := s_c_lch) (maxL := 2) (ret := some .char) (ws' := xgw) 2 hts (s_good s_w_lch) rfl rfl rfl (xword hts s_n_L1 rfl) (xword hts s_m_lc rfl) ⟨by decide, by decide, by decide +kernel⟩ ⟨Nat.le_of_ble_eq_true rfl, Nat.le_of_ble_eq_true rfl⟩, xword hts s_i_lch rfl⟩ ⟨hbl, fun U hU hW => ⟨⟨rfl, by rw [hU]; exact xO.warm hW hO0⟩, by rw [hU]; exact va_T.moved hW.alike (hS.1 k hk).2.2.2⟩⟩ rfl rfl hl.1 rfl (by show 2 * 0 + 0 ≤ 8; omega) s_d_cha_12 ⟨Nat.le_refl _, Nat.le_refl _⟩) ?_
  exact W.zret (v := xsch k i.toNatClampNeg) hx hb hret (s_ch k hk _ hlt).2 (fun t ht _ => ⟨rfl, ht⟩) (fun _ h => by cases h) s_d_cha_15
