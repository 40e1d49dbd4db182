/-! the switch -/
section GS
variable {I : MI} {mc ms : Nat} {Q : pM → Nat → Option Value → Prop} {k n pc : Nat} {pl : List (Option Value)} {st : List Value} {M : pM} {z : Nat}
theorem z_tswIn {dflt lo hi x off : Int} {offs : Array Int} {len j tgt : Nat} (hd : decode I.1 pc = .ok (.tableswitch dflt lo hi offs, len)) (hr : -2147483648 ≤ x ∧ x < 2147483648) (hj : x = lo + j) (hh : lo + j ≤ hi) (ho : offs[j]? = some off) (ht : (pc : Int) + off = (tgt : Int)) (K : G I mc ms Q k n tgt pl st M z) : G I mc ms Q k n pc pl (vI x :: st) M z := by
  intro E p l e R s m args below meth c A H locs ls X Wd L
  have hx := iZ_toInt hr
  refine lv_tableIn X.1 X.2.1 hd (by rw [hx]; omega) (by rw [hx]; omega) (off := off) ?_ ht (K E p l e R s m args below meth c A H locs ls X Wd L)
  rw [hx, show (x - lo).toNat = j by omega]
  exact ho
theorem z_tswOut {dflt lo hi x : Int} {offs : Array Int} {len tgt : Nat} (hd : decode I.1 pc = .ok (.tableswitch dflt lo hi offs, len)) (hr : -2147483648 ≤ x ∧ x < 2147483648) (hj : x < lo ∨ hi < x) (ht : (pc : Int) + dflt = (tgt : Int)) (K : G I mc ms Q k n tgt pl st M z) : G I mc ms Q k n pc pl (vI x :: st) M z := by
  intro E p l e R s m args below meth c A H locs ls X Wd L
  have hx := iZ_toInt hr
  exact lv_tableOut X.1 X.2.1 hd (by rw [hx]; exact hj) ht (K E p l e R s m args below meth c A H locs ls X Wd L)
end GS
/-- a number as an int holds it -/
def wr (a : Int) : Int := (iZ a).toInt
theorem iZ_wr (a : Int) : iZ a = iZ (wr a) := iZ_of (iZ a)
theorem wr_rng (a : Int) : -2147483648 ≤ wr a ∧ wr a < 2147483648 := iZ_rng (iZ a)
theorem wr_id {a : Int} (h : -2147483648 ≤ a ∧ a < 2147483648) : wr a = a := iZ_toInt h
