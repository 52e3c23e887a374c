theorem ev_slen {L : Nat} {xs : Nat → Int32} {d j pc : Nat} {lv st r : List Value} {h h' : xH} {v : Option Value} {a b w : Nat} (hL : L < 2147483648) (hq : xins j pc = some (.arraylength, 1, a, b, w)) (hst : st = .retAddr 0 :: r) (hk : xEv L xs d j (pc + 1) lv (.int (Int32.ofNat L) :: r) h v h') : xEv L xs d j pc lv st h v h' := by
  subst hst
  refine ev_step hq ?_ hk
  show x1 1 1 (if L < 2147483648 then xgo (pc + 1) lv (.int (Int32.ofNat L) :: r) h else none) = _
  rw [if_pos hL]
  rfl
theorem ev_sld {L : Nat} {xs : Nat → Int32} {d j pc : Nat} {lv st r : List Value} {h h' : xH} {v : Option Value} {a b w : Nat} {i : Int32} (hL : L < 2147483648) (hq : xins j pc = some (.iaload, 1, a, b, w)) (hst : st = .int i :: .retAddr 0 :: r) (h0 : 0 ≤ i.toInt) (h1 : i.toInt < L) (hk : xEv L xs d j (pc + 1) lv (.int (xs i.toNatClampNeg) :: r) h v h') : xEv L xs d j pc lv st h v h' := by
  subst hst
  refine ev_step hq ?_ hk
  show x1 1 1 (if L < 2147483648 then xin i L (xgo (pc + 1) lv (.int (xs i.toNatClampNeg) :: r) h) else none) = _
  rw [if_pos hL, xin_ok h0 h1]
  rfl
theorem ev_tk {L : Nat} {xs : Nat → Int32} {d j pc : Nat} {lv st r : List Value} {h h' : xH} {v : Option Value} {x : Int32} {t len a b w : Nat} {df lo hi z o : Int} {offs : Array Int} (hq : xins j pc = some (.tableswitch df lo hi offs, len, a, b, w)) (hst : st = .int x :: r) (hx : x.toInt = z) (hz : ¬ (z < lo ∨ hi < z)) (ho : offs[(z - lo).toNat]? = some o) (ht : ((pc : Int) + o).toNat = t) (hk : xEv L xs d j t lv r h v h') : xEv L xs d j pc lv st h v h' := by
  refine ev_step hq ?_ hk
  subst hst
  subst ht
  show (if x.toInt < lo ∨ hi < x.toInt then xgo ((pc : Int) + df).toNat lv r h else (match offs[(x.toInt - lo).toNat]? with
    | some o => xgo ((pc : Int) + o).toNat lv r h
    | none => none)) = _
  rw [hx, if_neg hz, ho]
  rfl
theorem ev_lk1 {L : Nat} {xs : Nat → Int32} {d j pc : Nat} {lv st : List Value} {h h' : xH} {v : Option Value} {x : Int32} {t len a b w : Nat} {df z o : Int} {ps : Array (Int × Int)} {r : List Value} (hq : xins j pc = some (.lookupswitch df ps, len, a, b, w)) (hst : st = .int x :: r) (hx : x.toInt = z) (ho : Op.lookupswitch.offset ps.toList df z = o) (ht : ((pc : Int) + o).toNat = t) (hk : xEv L xs d j t lv r h v h') : xEv L xs d j pc lv st h v h' := by
  refine ev_step hq ?_ hk
  subst hst
  subst ht
  show xgo ((pc : Int) + Op.lookupswitch.offset ps.toList df x.toInt).toNat lv r h = _
  rw [hx, ho]
  rfl
