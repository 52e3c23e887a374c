/-! every pure step -/
section AR
variable {lv : List Value} {h : xH} {base : aB} {alv ast : List aV} {st : List Value} {tr : aTr} {r : List aV × List aV × aTr}
theorem aOpt_s {b : Bool} {s q : List aV} (hq : aOpt b s = some q) : b = true ∧ q = s := by
  cases b with
  | false => cases hq
  | true => exact ⟨rfl, (Option.some.inj hq).symm⟩
theorem lg_cmp_b (x y : Int64) : -1 ≤ (lg_cmp x y).toInt ∧ (lg_cmp x y).toInt ≤ 1 := by
  unfold lg_cmp
  split
  · decide
  · split
    · decide
    · decide
theorem a_pur {i : Instr} {len : Nat} (hp : aPur i len alv ast tr = some r) (hL : aLs alv lv) (hS : aGs lv h ast st) (hT : aTs base lv h tr) : aOKp base h r (xpur i len lv st) := by
  cases i with
  | iconst n =>
    obtain ⟨rfl, h1⟩ := x1_s hp
    exact p_x1 (p_push h1 hL hS hT rfl (g_num _))
  | bipush n =>
    obtain ⟨rfl, h1⟩ := x1_s hp
    exact p_x1 (p_push h1 hL hS hT rfl (g_num _))
  | sipush n =>
    obtain ⟨rfl, h1⟩ := x1_s hp
    exact p_x1 (p_push h1 hL hS hT rfl (g_num _))
  | lconst n =>
    obtain ⟨rfl, h1⟩ := x1_s hp
    exact p_x1 (p_push h1 hL hS hT rfl ⟨_, rfl, Int.le_refl _, Int.le_refl _⟩)
  | iload_n k =>
    obtain ⟨rfl, h1⟩ := x1_s hp
    exact p_x1 (p_ldI h1 hL hS hT)
  | iload k =>
    obtain ⟨rfl, h1⟩ := x1_s hp
    exact p_x1 (p_ldI h1 hL hS hT)
  | lload_n k =>
    obtain ⟨rfl, h1⟩ := x1_s hp
    exact p_x1 (p_ldJ h1 hL hS hT)
  | lload k =>
    obtain ⟨rfl, h1⟩ := x1_s hp
    exact p_x1 (p_ldJ h1 hL hS hT)
  | aload_n k =>
    obtain ⟨rfl, h1⟩ := x1_s hp
    exact p_x1 (p_ldA h1 hL hS hT)
  | aload k =>
    obtain ⟨rfl, h1⟩ := x1_s hp
    exact p_x1 (p_ldA h1 hL hS hT)
  | istore_n k =>
    obtain ⟨rfl, h1⟩ := x1_s hp
    exact p_x1 (p_stI h1 hL hS hT)
  | istore k =>
    obtain ⟨rfl, h1⟩ := x1_s hp
    exact p_x1 (p_stI h1 hL hS hT)
  | lstore_n k =>
    obtain ⟨rfl, h1⟩ := x1_s hp
    exact p_x1 (p_stJ h1 hL hS hT)
  | lstore k =>
    obtain ⟨rfl, h1⟩ := x1_s hp
    exact p_x1 (p_stJ h1 hL hS hT)
  | astore_n k =>
    obtain ⟨rfl, h1⟩ := x1_s hp
    exact p_x1 (p_stA h1 hL hS hT)
  | astore k =>
    obtain ⟨rfl, h1⟩ := x1_s hp
    exact p_x1 (p_stA h1 hL hS hT)
  | iinc k n =>
    obtain ⟨rfl, h1⟩ := x1_s hp
    exact p_x1 (p_inc h1 hL hS hT)
  | iadd =>
    obtain ⟨rfl, h1⟩ := x1_s hp
    refine p_x1 (p_bin h1 hL hS hT ?_)
    intro a b o c d o2 as v x y s u1 u2 u3 u4 u5 u6 hv
    cases hv
    exact ⟨_, rfl, g_add u1 u2 u3 u4 u5 u6⟩
  | isub =>
    obtain ⟨rfl, h1⟩ := x1_s hp
    refine p_x1 (p_bin h1 hL hS hT ?_)
    intro a b o c d o2 as v x y s u1 u2 u3 u4 u5 u6 hv
    cases hv
    exact ⟨_, rfl, g_sub u1 u2 u3 u4 u5⟩
  | imul =>
    obtain ⟨rfl, h1⟩ := x1_s hp
    refine p_x1 (p_bin h1 hL hS hT ?_)
    intro a b o c d o2 as v x y s u1 u2 u3 u4 u5 u6 hv
    cases hv
    exact ⟨_, rfl, g_one (g := fun x y => x * y) u1 u2 u4 u5 (g_mul u1 u2 u4 u5)⟩
  | iand =>
    obtain ⟨rfl, h1⟩ := x1_s hp
    refine p_x1 (p_bin h1 hL hS hT ?_)
    intro a b o c d o2 as v x y s u1 u2 u3 u4 u5 u6 hv
    cases hv
    exact ⟨_, rfl, g_one (g := fun x y => x &&& y) u1 u2 u4 u5 (g_and u1 u2 u4 u5)⟩
  | ior =>
    obtain ⟨rfl, h1⟩ := x1_s hp
    refine p_x1 (p_bin h1 hL hS hT ?_)
    intro a b o c d o2 as v x y s u1 u2 u3 u4 u5 u6 hv
    cases hv
    exact ⟨_, rfl, g_one (g := fun x y => x ||| y) u1 u2 u4 u5 (g_ior u1 u2 u4 u5)⟩
  | ixor =>
    obtain ⟨rfl, h1⟩ := x1_s hp
    refine p_x1 (p_bin h1 hL hS hT ?_)
    intro a b o c d o2 as v x y s u1 u2 u3 u4 u5 u6 hv
    cases hv
    exact ⟨_, rfl, g_one (g := fun x y => x ^^^ y) u1 u2 u4 u5 (g_ful _)⟩
  | ishl =>
    obtain ⟨rfl, h1⟩ := x1_s hp
    refine p_x1 (p_bin h1 hL hS hT ?_)
    intro a b o c d o2 as v x y s u1 u2 u3 u4 u5 u6 hv
    cases hv
    exact ⟨_, rfl, g_one (g := fun x y => x <<< (y &&& 31)) u1 u2 u4 u5 (g_ful _)⟩
  | ishr =>
    obtain ⟨rfl, h1⟩ := x1_s hp
    refine p_x1 (p_bin h1 hL hS hT ?_)
    intro a b o c d o2 as v x y s u1 u2 u3 u4 u5 u6 hv
    cases hv
    exact ⟨_, rfl, g_one (g := fun x y => x >>> (y &&& 31)) u1 u2 u4 u5 (g_shr u1 u2)⟩
  | iushr =>
    obtain ⟨rfl, h1⟩ := x1_s hp
    refine p_x1 (p_bin h1 hL hS hT ?_)
    intro a b o c d o2 as v x y s u1 u2 u3 u4 u5 u6 hv
    cases hv
    exact ⟨_, rfl, g_one (g := fun x y => (x.toUInt32 >>> (y.toUInt32 &&& Int32.toUInt32 31)).toInt32) u1 u2 u4 u5 (g_ful _)⟩
  | idiv =>
    obtain ⟨rfl, h1⟩ := x1_s hp
    refine p_x1 (p_bin h1 hL hS hT ?_)
    intro a b o c d o2 as v x y s u1 u2 u3 u4 u5 u6 hv
    obtain ⟨h0, hg⟩ := g_div (lv := lv) (h := h) u1 u2 u4 u5 hv
    exact ⟨_, if_neg h0, hg⟩
  | irem =>
    obtain ⟨rfl, h1⟩ := x1_s hp
    refine p_x1 (p_bin h1 hL hS hT ?_)
    intro a b o c d o2 as v x y s u1 u2 u3 u4 u5 u6 hv
    obtain ⟨h0, hg⟩ := g_rem (lv := lv) (h := h) u1 u2 u4 u5 hv
    exact ⟨_, if_neg h0, hg⟩
  | ineg =>
    obtain ⟨rfl, h1⟩ := x1_s hp
    refine p_x1 (p_i1 h1 hL hS hT ?_)
    intro a b o x s u1 u2
    exact ⟨_, rfl, g_fit (Int32.toInt_neg x) (by omega) (by omega) trivial⟩
  | i2l =>
    obtain ⟨rfl, h1⟩ := x1_s hp
    refine p_x1 (p_i1 h1 hL hS hT ?_)
    intro a b o x s u1 u2
    exact ⟨_, rfl, ⟨_, rfl, by rw [Int32.toInt_toInt64]; exact u1, by rw [Int32.toInt_toInt64]; exact u2⟩⟩
  | i2b =>
    obtain ⟨rfl, h1⟩ := x1_s hp
    refine p_x1 (p_i1 h1 hL hS hT ?_)
    intro a b o x s u1 u2
    exact ⟨_, rfl, ⟨_, rfl, (ai_i2b x).1, (ai_i2b x).2, trivial⟩⟩
  | l2i =>
    obtain ⟨rfl, h1⟩ := x1_s hp
    split at h1
    · rename_i a b as
      obtain ⟨x, s, rfl, u1, u2, u3⟩ := s_lng hS
      cases h1
      exact p_x1 ⟨lv, _, rfl, hL, ⟨g_l2i u1 u2, u3⟩, hT⟩
    · cases h1
  | ladd =>
    obtain ⟨rfl, h1⟩ := x1_s hp
    refine p_x1 (p_jj h1 hL hS hT ?_)
    intro a b c d v x y s u1 u2 u4 u5 hv
    cases hv
    exact ⟨_, rfl, g_lfit (Int64.toInt_add x y) (by omega) (by omega)⟩
  | lsub =>
    obtain ⟨rfl, h1⟩ := x1_s hp
    refine p_x1 (p_jj h1 hL hS hT ?_)
    intro a b c d v x y s u1 u2 u4 u5 hv
    cases hv
    exact ⟨_, rfl, g_lfit (Int64.toInt_sub x y) (by omega) (by omega)⟩
  | lmul =>
    obtain ⟨rfl, h1⟩ := x1_s hp
    refine p_x1 (p_jj h1 hL hS hT ?_)
    intro a b c d v x y s u1 u2 u4 u5 hv
    cases hv
    exact ⟨_, rfl, g_lful _⟩
  | land =>
    obtain ⟨rfl, h1⟩ := x1_s hp
    refine p_x1 (p_jj h1 hL hS hT ?_)
    intro a b c d v x y s u1 u2 u4 u5 hv
    cases hv
    exact ⟨_, rfl, g_land u1 u2 u4 u5⟩
  | ldiv =>
    obtain ⟨rfl, h1⟩ := x1_s hp
    refine p_x1 (p_jj h1 hL hS hT ?_)
    intro a b c d v x y s u1 u2 u4 u5 hv
    obtain ⟨h0, hg⟩ := g_ldiv (lv := lv) (h := h) u1 u2 u4 u5 hv
    exact ⟨_, if_neg h0, hg⟩
  | lrem =>
    obtain ⟨rfl, h1⟩ := x1_s hp
    refine p_x1 (p_jj h1 hL hS hT ?_)
    intro a b c d v x y s u1 u2 u4 u5 hv
    obtain ⟨h0, hg⟩ := g_lrem (lv := lv) (h := h) u1 u2 u4 u5 hv
    exact ⟨_, if_neg h0, hg⟩
  | lcmp =>
    obtain ⟨rfl, h1⟩ := x1_s hp
    refine p_x1 (p_jj h1 hL hS hT ?_)
    intro a b c d v x y s u1 u2 u4 u5 hv
    cases hv
    exact ⟨_, rfl, ⟨_, rfl, (lg_cmp_b x y).1, (lg_cmp_b x y).2, trivial⟩⟩
  | dup =>
    obtain ⟨rfl, h1⟩ := x1_s hp
    obtain ⟨s, hq, rfl⟩ := aP_s h1
    cases ast with
    | nil => cases hq
    | cons v as =>
      obtain ⟨hb, rfl⟩ := aOpt_s hq
      obtain ⟨w, t, rfl, u1, u2⟩ := s_any hS
      exact p_x1 ⟨lv, _, if_pos (g_c1 u1 hb), hL, ⟨u1, u1, u2⟩, hT⟩
  | pop =>
    obtain ⟨rfl, h1⟩ := x1_s hp
    obtain ⟨s, hq, rfl⟩ := aP_s h1
    cases ast with
    | nil => cases hq
    | cons v as =>
      obtain ⟨hb, rfl⟩ := aOpt_s hq
      obtain ⟨w, t, rfl, u1, u2⟩ := s_any hS
      exact p_x1 ⟨lv, _, if_pos (g_c1 u1 hb), hL, u2, hT⟩
  | dup_x1 =>
    obtain ⟨rfl, h1⟩ := x1_s hp
    obtain ⟨s, hq, rfl⟩ := aP_s h1
    cases ast with
    | nil => cases hq
    | cons v as =>
      cases as with
      | nil => cases hq
      | cons v2 as =>
        obtain ⟨hb, rfl⟩ := aOpt_s hq
        rw [Bool.and_eq_true] at hb
        obtain ⟨w, t, rfl, u1, u2⟩ := s_any hS
        obtain ⟨w2, t2, rfl, u3, u4⟩ := s_any u2
        refine p_x1 ⟨lv, w :: w2 :: w :: t2, ?_, hL, ⟨u1, u3, u1, u4⟩, hT⟩
        show (if w.category = 1 then (if w2.category = 1 then _ else _) else _) = _
        rw [if_pos (g_c1 u1 hb.1), if_pos (g_c1 u3 hb.2)]
  | dup2 =>
    obtain ⟨rfl, h1⟩ := x1_s hp
    obtain ⟨s, hq, rfl⟩ := aP_s h1
    cases ast with
    | nil => cases hq
    | cons v as =>
      have hq2 : (bif a1 v then aV1 as fun w r2 => aOpt (a1 w) (v :: w :: v :: w :: r2) else aOpt (aKnown v) (v :: v :: as)) = some s := hq
      obtain ⟨w, t, rfl, u1, u2⟩ := s_any hS
      cases hc : a1 v with
      | true =>
        rw [hc] at hq2
        cases as with
        | nil => cases hq2
        | cons v2 as =>
          obtain ⟨hb, rfl⟩ := aOpt_s hq2
          obtain ⟨w2, t2, rfl, u3, u4⟩ := s_any u2
          refine p_x1 ⟨lv, w :: w2 :: w :: w2 :: t2, ?_, hL, ⟨u1, u3, u1, u3, u4⟩, hT⟩
          show (if w.category = 2 then _ else (if w2.category = 1 then _ else _)) = _
          rw [if_neg (by rw [g_c1 u1 hc]; decide), if_pos (g_c1 u3 hb)]
      | false =>
        rw [hc] at hq2
        obtain ⟨hb, rfl⟩ := aOpt_s hq2
        refine p_x1 ⟨lv, w :: w :: t, ?_, hL, ⟨u1, u1, u2⟩, hT⟩
        show (if w.category = 2 then _ else _) = _
        rw [if_pos]
        rw [g_cat u1 hb]
        rcases v with _ | ⟨lo, hi, o⟩ | ⟨lo, hi⟩ | cs | ks
        · cases hb
        · cases hc
        · rfl
        · cases hc
        · cases hc
  | dup2_x1 =>
    obtain ⟨rfl, h1⟩ := x1_s hp
    obtain ⟨s, hq, rfl⟩ := aP_s h1
    cases ast with
    | nil => cases hq
    | cons v as =>
      cases as with
      | nil => cases hq
      | cons v2 as =>
        obtain ⟨hb, rfl⟩ := aOpt_s hq
        rw [Bool.and_eq_true, Bool.and_eq_true] at hb
        obtain ⟨w, t, rfl, u1, u2⟩ := s_any hS
        obtain ⟨w2, t2, rfl, u3, u4⟩ := s_any u2
        refine p_x1 ⟨lv, w :: w2 :: w :: t2, ?_, hL, ⟨u1, u3, u1, u4⟩, hT⟩
        show (if w.category = 2 then (if w2.category = 1 then _ else _) else _) = _
        rw [if_pos (by rw [g_cat u1 hb.1.1]; exact Nat.eq_of_beq_eq_true hb.1.2), if_pos (g_c1 u3 hb.2)]
  | _ => cases hp
end AR
