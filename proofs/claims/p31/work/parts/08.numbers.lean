/-! numbers: an int as iZ of an Int, a long as lZ of an Int; the rules over them -/
def iZ (a : Int) : Int32 := Int32.ofInt a
def lZ (a : Int) : Int64 := Int64.ofInt a
abbrev vI (a : Int) : Value := .int (iZ a)
abbrev vL (a : Int) : Value := .long (lZ a)
theorem iZ_toInt {a : Int} (h : -2147483648 ≤ a ∧ a < 2147483648) : (iZ a).toInt = a := by
  unfold iZ
  exact Int32.toInt_ofInt_of_le (by simpa using h.1) (by simpa using h.2)
theorem lZ_toInt {a : Int} (h : -9223372036854775808 ≤ a ∧ a < 9223372036854775808) : (lZ a).toInt = a := by
  unfold lZ
  exact Int64.toInt_ofInt_of_le (by simpa using h.1) (by simpa using h.2)
theorem iZ_of (x : Int32) : x = iZ x.toInt := by unfold iZ; simp
theorem iZ_rng (x : Int32) : -2147483648 ≤ x.toInt ∧ x.toInt < 2147483648 := ⟨Int32.le_toInt x, Int32.toInt_lt x⟩
theorem iZ_add (a b : Int) : iZ a + iZ b = iZ (a + b) := by unfold iZ; rw [Int32.ofInt_add]
theorem iZ_sub (a b : Int) : iZ a - iZ b = iZ (a - b) := by unfold iZ; rw [Int32.ofInt_sub]
theorem iZ_mul (a b : Int) : iZ a * iZ b = iZ (a * b) := by unfold iZ; rw [Int32.ofInt_mul]
theorem lZ_add (a b : Int) : lZ a + lZ b = lZ (a + b) := by unfold lZ; rw [Int64.ofInt_add]
theorem lZ_sub (a b : Int) : lZ a - lZ b = lZ (a - b) := by unfold lZ; rw [Int64.ofInt_sub]
theorem lZ_mul (a b : Int) : lZ a * lZ b = lZ (a * b) := by unfold lZ; rw [Int64.ofInt_mul]
theorem lZ_neg (a : Int) : -lZ a = lZ (-a) := by unfold lZ; rw [Int64.ofInt_neg]
theorem iZ_le {a b : Int} (ha : -2147483648 ≤ a ∧ a < 2147483648) (hb : -2147483648 ≤ b ∧ b < 2147483648) : iZ a ≤ iZ b ↔ a ≤ b := by
  rw [Int32.le_iff_toInt_le, iZ_toInt ha, iZ_toInt hb]
theorem iZ_lt {a b : Int} (ha : -2147483648 ≤ a ∧ a < 2147483648) (hb : -2147483648 ≤ b ∧ b < 2147483648) : iZ a < iZ b ↔ a < b := by
  rw [Int32.lt_iff_toInt_lt, iZ_toInt ha, iZ_toInt hb]
theorem iZ_eq {a b : Int} (ha : -2147483648 ≤ a ∧ a < 2147483648) (hb : -2147483648 ≤ b ∧ b < 2147483648) : iZ a = iZ b ↔ a = b := by
  rw [← Int32.toInt_inj, iZ_toInt ha, iZ_toInt hb]
theorem lZ_lt {a b : Int} (ha : -9223372036854775808 ≤ a ∧ a < 9223372036854775808) (hb : -9223372036854775808 ≤ b ∧ b < 9223372036854775808) : lZ a < lZ b ↔ a < b := by
  rw [Int64.lt_iff_toInt_lt, lZ_toInt ha, lZ_toInt hb]
theorem lZ_eq {a b : Int} (ha : -9223372036854775808 ≤ a ∧ a < 9223372036854775808) (hb : -9223372036854775808 ≤ b ∧ b < 9223372036854775808) : lZ a = lZ b ↔ a = b := by
  rw [← Int64.toInt_inj, lZ_toInt ha, lZ_toInt hb]
theorem iZ_0 : iZ 0 = 0 := rfl
theorem iZ_div {a b : Int} (ha : 0 ≤ a ∧ a < 2147483648) (hb : 0 < b ∧ b < 2147483648) : iZ a / iZ b = iZ (a / b) := by
  have h1 : 0 ≤ a / b := Int.ediv_nonneg ha.1 (by omega)
  have h2 : a / b ≤ a := Int.ediv_le_self b ha.1
  rw [← Int32.toInt_inj, Int32.toInt_div, iZ_toInt (by omega), iZ_toInt (by omega), iZ_toInt (by omega), Int.tdiv_eq_ediv_of_nonneg ha.1]
  have e := iZ_toInt (a := a / b) (by omega)
  rw [← Int32.toInt_ofInt]
  exact e
theorem iZ_rem {a b : Int} (ha : 0 ≤ a ∧ a < 2147483648) (hb : 0 < b ∧ b < 2147483648) : iZ a - iZ a / iZ b * iZ b = iZ (a % b) := by
  rw [iZ_div ha hb, iZ_mul, iZ_sub, Int.emod_def, Int.mul_comm]
theorem lZ_div {a b : Int} (ha : 0 ≤ a ∧ a < 9223372036854775808) (hb : 0 < b ∧ b < 9223372036854775808) : lZ a / lZ b = lZ (a / b) := by
  have h1 : 0 ≤ a / b := Int.ediv_nonneg ha.1 (by omega)
  have h2 : a / b ≤ a := Int.ediv_le_self b ha.1
  rw [← Int64.toInt_inj, Int64.toInt_div, lZ_toInt (by omega), lZ_toInt (by omega), lZ_toInt (by omega), Int.tdiv_eq_ediv_of_nonneg ha.1]
  have e := lZ_toInt (a := a / b) (by omega)
  rw [← Int64.toInt_ofInt]
  exact e
theorem lZ_rem {a b : Int} (ha : 0 ≤ a ∧ a < 9223372036854775808) (hb : 0 < b ∧ b < 9223372036854775808) : lZ a - lZ a / lZ b * lZ b = lZ (a % b) := by
  rw [lZ_div ha hb, lZ_mul, lZ_sub, Int.emod_def, Int.mul_comm]
theorem iZ_l {a : Int} (ha : -2147483648 ≤ a ∧ a < 2147483648) : (iZ a).toInt64 = lZ a := by
  rw [← Int64.toInt_inj, Int32.toInt_toInt64, iZ_toInt ha, lZ_toInt (by omega)]
theorem lZ_i {a : Int} (ha : -2147483648 ≤ a ∧ a < 2147483648) : (lZ a).toInt32 = iZ a := by
  rw [← Int32.toInt_inj, Int64.toInt_toInt32, lZ_toInt (by omega), iZ_toInt ha]
  have e := iZ_toInt ha
  unfold iZ at e
  rw [Int32.toInt_ofInt] at e
  exact e
def arI (N : Nat) (g : Nat → Int) : pE := .inl (0, N, .inl (fun j => iZ (g j)))
def arZ (N : Nat) (g : Nat → Int) : pE := .inl (1, N, .inl (fun j => iZ (g j)))
def arQ (N : Nat) (f : Nat → Option Nat) : pE := .inl (2, N, .inr (.inr (.inr (.inr f))))
def ob (ci : Nat) (fs : List Value) : pE := .inr (ci, fs)
def upZ (g : Nat → Int) (j : Nat) (v : Int) : Nat → Int := fun x => if x = j then v else g x
theorem upZ_s {g : Nat → Int} {j : Nat} {v : Int} : upZ g j v j = v := by simp [upZ]
theorem upZ_n {g : Nat → Int} {j x : Nat} {v : Int} (h : x ≠ j) : upZ g j v x = g x := by simp [upZ, h]
/-- outside of lo .. hi - 1 nothing has changed -/
def Off (M M' : pM) (lo hi : Nat) : Prop := ∀ x : Nat, ¬ (lo ≤ x ∧ x < hi) → M' x = M x
theorem Off.rf {M : pM} {lo hi : Nat} : Off M M lo hi := fun _ _ => rfl
theorem Off.tr {M M1 M2 : pM} {lo hi : Nat} (h : Off M M1 lo hi) (h2 : Off M1 M2 lo hi) : Off M M2 lo hi := fun x hx => (h2 x hx).trans (h x hx)
theorem Off.wd {M M' : pM} {lo hi lo' hi' : Nat} (h : Off M M' lo hi) (h1 : lo' ≤ lo) (h2 : hi ≤ hi') : Off M M' lo' hi' := fun x hx => h x (by omega)
theorem Off.one {M M1 M2 : pM} {lo hi a : Nat} (h : Off M M1 lo hi) (h2 : ∀ x, x ≠ a → M2 x = M1 x) (ha : lo ≤ a ∧ a < hi) : Off M M2 lo hi := fun x hx => (h2 x (by omega)).trans (h x hx)
/-- a call that changes nothing -/
def CR (I : MI) (y : MethodName) (args : List Value) (M : pM) (z : Nat) (r : Option Value) : Prop := C I y args M z 0 0 (fun M' z' r' => M' = M ∧ z' = z ∧ r' = r)
/-- a call that makes nothing -/
def CW (I : MI) (y : MethodName) (args : List Value) (M : pM) (z : Nat) (P : pM → Option Value → Prop) : Prop := C I y args M z 0 0 (fun M' z' r' => z' = z ∧ P M' r')
theorem C.toCW {I : MI} {y : MethodName} {args : List Value} {M : pM} {z : Nat} {r : Option Value} {P : pM → Option Value → Prop} (h : CR I y args M z r) (hP : P M r) : CW I y args M z P := C.mono h (fun M' z' r' hh => ⟨hh.2.1, by rw [hh.1, hh.2.2]; exact hP⟩)
theorem CW.mono {I : MI} {y : MethodName} {args : List Value} {M : pM} {z : Nat} {P P' : pM → Option Value → Prop} (h : CW I y args M z P) (hP : ∀ M' r, P M' r → P' M' r) : CW I y args M z P' := C.mono h (fun M' z' r' hh => ⟨hh.1, hP _ _ hh.2⟩)
/-- an answer alone may be another that is the same -/
theorem CR.eq {I : MI} {y : MethodName} {args : List Value} {M : pM} {z : Nat} {r r' : Option Value} (h : CR I y args M z r) (hr : r = r') : CR I y args M z r' := by rw [← hr]; exact h
section GZ
variable {I : MI} {mc ms : Nat} {Q : pM → Nat → Option Value → Prop} {k n pc : Nat} {pl : List (Option Value)} {st : List Value} {M : pM} {z : Nat}
theorem G.top {v v' : Value} (h : v = v') (K : G I mc ms Q k n pc pl (v' :: st) M z) : G I mc ms Q k n pc pl (v :: st) M z := by rw [h]; exact K
theorem z_iconst {c0 : Int} (hd : decode I.1 pc = .ok (.iconst c0, 1)) (K : G I mc ms Q k n (pc + 1) pl (vI c0 :: st) M z) : G I mc ms Q k n pc pl st M z := g_iconst hd rfl K
theorem z_bipush {c0 : Int} (hd : decode I.1 pc = .ok (.bipush c0, 2)) (hv : (Int8.ofInt c0).toInt32 = iZ c0) (K : G I mc ms Q k n (pc + 2) pl (vI c0 :: st) M z) : G I mc ms Q k n pc pl st M z := g_bipush hd hv K
theorem z_sipush {c0 : Int} (hd : decode I.1 pc = .ok (.sipush c0, 3)) (hv : (Int16.ofInt c0).toInt32 = iZ c0) (K : G I mc ms Q k n (pc + 3) pl (vI c0 :: st) M z) : G I mc ms Q k n pc pl st M z := g_sipush hd hv K
theorem z_lconst {c0 : Fin 2} {a : Int} (hd : decode I.1 pc = .ok (.lconst c0, 1)) (ha : ((c0 : Nat) : Int) = a) (K : G I mc ms Q k n (pc + 1) pl (vL a :: st) M z) : G I mc ms Q k n pc pl st M z := g_lconst hd (by rw [← ha]; unfold lZ; exact (Int64.ofInt_eq_ofNat).symm) K
theorem z_ldc {i : Nat} {v : Int32} (a : Int) (hd : decode I.1 pc = .ok (.ldc i, 2)) (hc : Cond.constant I.2.2.2.1 i v ∈ TBL) (hv : v = iZ a) (K : G I mc ms Q k n (pc + 2) pl (vI a :: st) M z) : G I mc ms Q k n pc pl st M z := g_ldc hd hc (by rw [hv]; exact K)
theorem z_ldcw {i : Nat} {v : Int32} (a : Int) (hd : decode I.1 pc = .ok (.ldc_w i, 3)) (hc : Cond.constant I.2.2.2.1 i v ∈ TBL) (hv : v = iZ a) (K : G I mc ms Q k n (pc + 3) pl (vI a :: st) M z) : G I mc ms Q k n pc pl st M z := g_ldcw hd hc (by rw [hv]; exact K)
theorem z_ldc2 {i : Nat} {v : Int64} (a : Int) (hd : decode I.1 pc = .ok (.ldc2_w i, 3)) (hc : Cond.constantLong I.2.2.2.1 i v ∈ TBL) (hv : v = lZ a) (K : G I mc ms Q k n (pc + 3) pl (vL a :: st) M z) : G I mc ms Q k n pc pl st M z := g_ldc2 hd hc (by rw [hv]; exact K)
theorem z_iadd {a b : Int} (hd : decode I.1 pc = .ok (.iadd, 1)) (K : G I mc ms Q k n (pc + 1) pl (vI (a + b) :: st) M z) : G I mc ms Q k n pc pl (vI b :: vI a :: st) M z := g_iadd hd (by rw [iZ_add]; exact K)
theorem z_isub {a b : Int} (hd : decode I.1 pc = .ok (.isub, 1)) (K : G I mc ms Q k n (pc + 1) pl (vI (a - b) :: st) M z) : G I mc ms Q k n pc pl (vI b :: vI a :: st) M z := g_isub hd (by rw [iZ_sub]; exact K)
theorem z_imul {a b : Int} (hd : decode I.1 pc = .ok (.imul, 1)) (K : G I mc ms Q k n (pc + 1) pl (vI (a * b) :: st) M z) : G I mc ms Q k n pc pl (vI b :: vI a :: st) M z := g_imul hd (by rw [iZ_mul]; exact K)
theorem z_ladd {a b : Int} (hd : decode I.1 pc = .ok (.ladd, 1)) (K : G I mc ms Q k n (pc + 1) pl (vL (a + b) :: st) M z) : G I mc ms Q k n pc pl (vL b :: vL a :: st) M z := g_ladd hd (by rw [lZ_add]; exact K)
theorem z_lsub {a b : Int} (hd : decode I.1 pc = .ok (.lsub, 1)) (K : G I mc ms Q k n (pc + 1) pl (vL (a - b) :: st) M z) : G I mc ms Q k n pc pl (vL b :: vL a :: st) M z := g_lsub hd (by rw [lZ_sub]; exact K)
theorem z_lmul {a b : Int} (hd : decode I.1 pc = .ok (.lmul, 1)) (K : G I mc ms Q k n (pc + 1) pl (vL (a * b) :: st) M z) : G I mc ms Q k n pc pl (vL b :: vL a :: st) M z := g_lmul hd (by rw [lZ_mul]; exact K)
theorem z_lneg {a : Int} (hd : decode I.1 pc = .ok (.lneg, 1)) (K : G I mc ms Q k n (pc + 1) pl (vL (-a) :: st) M z) : G I mc ms Q k n pc pl (vL a :: st) M z := g_lneg hd (by rw [lZ_neg]; exact K)
theorem z_idiv {a b : Int} (hd : decode I.1 pc = .ok (.idiv, 1)) (ha : 0 ≤ a ∧ a < 2147483648) (hb : 0 < b ∧ b < 2147483648) (K : G I mc ms Q k n (pc + 1) pl (vI (a / b) :: st) M z) : G I mc ms Q k n pc pl (vI b :: vI a :: st) M z := g_idiv hd (fun h => by have := (iZ_eq (by omega) (by omega)).mp (h.trans iZ_0.symm); omega) (by rw [iZ_div ha hb]; exact K)
theorem z_irem {a b : Int} (hd : decode I.1 pc = .ok (.irem, 1)) (ha : 0 ≤ a ∧ a < 2147483648) (hb : 0 < b ∧ b < 2147483648) (K : G I mc ms Q k n (pc + 1) pl (vI (a % b) :: st) M z) : G I mc ms Q k n pc pl (vI b :: vI a :: st) M z := g_irem hd (fun h => by have := (iZ_eq (by omega) (by omega)).mp (h.trans iZ_0.symm); omega) (by rw [iZ_rem ha hb]; exact K)
theorem z_ldiv {a b : Int} (hd : decode I.1 pc = .ok (.ldiv, 1)) (ha : 0 ≤ a ∧ a < 9223372036854775808) (hb : 0 < b ∧ b < 9223372036854775808) (K : G I mc ms Q k n (pc + 1) pl (vL (a / b) :: st) M z) : G I mc ms Q k n pc pl (vL b :: vL a :: st) M z := g_ldiv hd (fun h => by have := (lZ_eq (a := b) (b := 0) (by omega) (by omega)).mp (h.trans rfl); omega) (by rw [lZ_div ha hb]; exact K)
theorem z_lrem {a b : Int} (hd : decode I.1 pc = .ok (.lrem, 1)) (ha : 0 ≤ a ∧ a < 9223372036854775808) (hb : 0 < b ∧ b < 9223372036854775808) (K : G I mc ms Q k n (pc + 1) pl (vL (a % b) :: st) M z) : G I mc ms Q k n pc pl (vL b :: vL a :: st) M z := g_lrem hd (fun h => by have := (lZ_eq (a := b) (b := 0) (by omega) (by omega)).mp (h.trans rfl); omega) (by rw [lZ_rem ha hb]; exact K)
theorem z_i2l {a : Int} (hd : decode I.1 pc = .ok (.i2l, 1)) (ha : -2147483648 ≤ a ∧ a < 2147483648) (K : G I mc ms Q k n (pc + 1) pl (vL a :: st) M z) : G I mc ms Q k n pc pl (vI a :: st) M z := g_i2l hd (by rw [iZ_l ha]; exact K)
theorem z_l2i {a : Int} (hd : decode I.1 pc = .ok (.l2i, 1)) (ha : -2147483648 ≤ a ∧ a < 2147483648) (K : G I mc ms Q k n (pc + 1) pl (vI a :: st) M z) : G I mc ms Q k n pc pl (vL a :: st) M z := g_l2i hd (by rw [lZ_i ha]; exact K)
theorem z_lcmp {a b : Int} (hd : decode I.1 pc = .ok (.lcmp, 1)) (ha : -9223372036854775808 ≤ a ∧ a < 9223372036854775808) (hb : -9223372036854775808 ≤ b ∧ b < 9223372036854775808) (kg : b < a → G I mc ms Q k n (pc + 1) pl (vI 1 :: st) M z) (ke : a = b → G I mc ms Q k n (pc + 1) pl (vI 0 :: st) M z) (kl : a < b → G I mc ms Q k n (pc + 1) pl (vI (-1) :: st) M z) : G I mc ms Q k n pc pl (vL b :: vL a :: st) M z := by
  refine g_lcmp hd ?_
  unfold lg_cmp
  by_cases h1 : lZ b < lZ a
  · rw [if_pos h1]; exact kg ((lZ_lt hb ha).mp h1)
  · rw [if_neg h1]
    have h1' := mt (lZ_lt hb ha).mpr h1
    by_cases h2 : lZ a = lZ b
    · rw [if_pos h2]; exact ke ((lZ_eq ha hb).mp h2)
    · rw [if_neg h2]
      have h2' := mt (lZ_eq ha hb).mpr h2
      exact kl (by omega)
theorem z_iinc {i : Nat} {c0 a : Int} (hd : decode I.1 pc = .ok (.iinc i c0, 3)) (hl : pl[i]? = some (some (vI a))) (hn : i < I.2.1) (K : G I mc ms Q k n (pc + 3) (s1 pl i (vI (a + c0))) st M z) : G I mc ms Q k n pc pl st M z := g_iinc hd hl (iZ_add a c0) hn K
theorem z_if_eq {a : Int} {off : Int} {tgt : Nat} (hd : decode I.1 pc = .ok (.ifCond .eq off, 3)) (ht : (pc : Int) + off = (tgt : Int)) (ha : -2147483648 ≤ a ∧ a < 2147483648) (kt : a = 0 → G I mc ms Q k n tgt pl st M z) (kf : a ≠ 0 → G I mc ms Q k n (pc + 3) pl st M z) : G I mc ms Q k n pc pl (vI a :: st) M z := g_if_eq hd ht (fun h => kt (((iZ_eq (a := a) (b := 0) ha (by omega))).mp h)) (fun h => kf (by have := mt ((iZ_eq (a := a) (b := 0) ha (by omega))).mpr h; omega))
theorem z_if_ne {a : Int} {off : Int} {tgt : Nat} (hd : decode I.1 pc = .ok (.ifCond .ne off, 3)) (ht : (pc : Int) + off = (tgt : Int)) (ha : -2147483648 ≤ a ∧ a < 2147483648) (kt : a ≠ 0 → G I mc ms Q k n tgt pl st M z) (kf : a = 0 → G I mc ms Q k n (pc + 3) pl st M z) : G I mc ms Q k n pc pl (vI a :: st) M z := g_if_ne hd ht (fun h => kt (fun q => h (((iZ_eq (a := a) (b := 0) ha (by omega))).mpr q))) (fun h => kf (((iZ_eq (a := a) (b := 0) ha (by omega))).mp h))
theorem z_if_lt {a : Int} {off : Int} {tgt : Nat} (hd : decode I.1 pc = .ok (.ifCond .lt off, 3)) (ht : (pc : Int) + off = (tgt : Int)) (ha : -2147483648 ≤ a ∧ a < 2147483648) (kt : a < 0 → G I mc ms Q k n tgt pl st M z) (kf : 0 ≤ a → G I mc ms Q k n (pc + 3) pl st M z) : G I mc ms Q k n pc pl (vI a :: st) M z := g_if_lt hd ht (fun h => kt (((iZ_lt (a := a) (b := 0) ha (by omega))).mp h)) (fun h => kf (by have := mt ((iZ_lt (a := a) (b := 0) ha (by omega))).mpr h; omega))
theorem z_if_ge {a : Int} {off : Int} {tgt : Nat} (hd : decode I.1 pc = .ok (.ifCond .ge off, 3)) (ht : (pc : Int) + off = (tgt : Int)) (ha : -2147483648 ≤ a ∧ a < 2147483648) (kt : 0 ≤ a → G I mc ms Q k n tgt pl st M z) (kf : a < 0 → G I mc ms Q k n (pc + 3) pl st M z) : G I mc ms Q k n pc pl (vI a :: st) M z := g_if_ge hd ht (fun h => kt (((iZ_le (a := 0) (b := a) (by omega) ha)).mp h)) (fun h => kf (by have := mt ((iZ_le (a := 0) (b := a) (by omega) ha)).mpr h; omega))
theorem z_if_gt {a : Int} {off : Int} {tgt : Nat} (hd : decode I.1 pc = .ok (.ifCond .gt off, 3)) (ht : (pc : Int) + off = (tgt : Int)) (ha : -2147483648 ≤ a ∧ a < 2147483648) (kt : 0 < a → G I mc ms Q k n tgt pl st M z) (kf : a ≤ 0 → G I mc ms Q k n (pc + 3) pl st M z) : G I mc ms Q k n pc pl (vI a :: st) M z := g_if_gt hd ht (fun h => kt (((iZ_lt (a := 0) (b := a) (by omega) ha)).mp h)) (fun h => kf (by have := mt ((iZ_lt (a := 0) (b := a) (by omega) ha)).mpr h; omega))
theorem z_if_le {a : Int} {off : Int} {tgt : Nat} (hd : decode I.1 pc = .ok (.ifCond .le off, 3)) (ht : (pc : Int) + off = (tgt : Int)) (ha : -2147483648 ≤ a ∧ a < 2147483648) (kt : a ≤ 0 → G I mc ms Q k n tgt pl st M z) (kf : 0 < a → G I mc ms Q k n (pc + 3) pl st M z) : G I mc ms Q k n pc pl (vI a :: st) M z := g_if_le hd ht (fun h => kt (((iZ_le (a := a) (b := 0) ha (by omega))).mp h)) (fun h => kf (by have := mt ((iZ_le (a := a) (b := 0) ha (by omega))).mpr h; omega))
theorem z_icmp_eq {a b : Int} {off : Int} {tgt : Nat} (hd : decode I.1 pc = .ok (.if_icmp .eq off, 3)) (ht : (pc : Int) + off = (tgt : Int)) (ha : -2147483648 ≤ a ∧ a < 2147483648) (hb : -2147483648 ≤ b ∧ b < 2147483648) (kt : a = b → G I mc ms Q k n tgt pl st M z) (kf : a ≠ b → G I mc ms Q k n (pc + 3) pl st M z) : G I mc ms Q k n pc pl (vI b :: vI a :: st) M z := g_icmp_eq hd ht (fun h => kt ((iZ_eq ha hb).mp h)) (fun h => kf (by have := mt (iZ_eq ha hb).mpr h; omega))
theorem z_icmp_ne {a b : Int} {off : Int} {tgt : Nat} (hd : decode I.1 pc = .ok (.if_icmp .ne off, 3)) (ht : (pc : Int) + off = (tgt : Int)) (ha : -2147483648 ≤ a ∧ a < 2147483648) (hb : -2147483648 ≤ b ∧ b < 2147483648) (kt : a ≠ b → G I mc ms Q k n tgt pl st M z) (kf : a = b → G I mc ms Q k n (pc + 3) pl st M z) : G I mc ms Q k n pc pl (vI b :: vI a :: st) M z := g_icmp_ne hd ht (fun h => kt (fun q => h ((iZ_eq ha hb).mpr q))) (fun h => kf ((iZ_eq ha hb).mp h))
theorem z_icmp_lt {a b : Int} {off : Int} {tgt : Nat} (hd : decode I.1 pc = .ok (.if_icmp .lt off, 3)) (ht : (pc : Int) + off = (tgt : Int)) (ha : -2147483648 ≤ a ∧ a < 2147483648) (hb : -2147483648 ≤ b ∧ b < 2147483648) (kt : a < b → G I mc ms Q k n tgt pl st M z) (kf : b ≤ a → G I mc ms Q k n (pc + 3) pl st M z) : G I mc ms Q k n pc pl (vI b :: vI a :: st) M z := g_icmp_lt hd ht (fun h => kt ((iZ_lt ha hb).mp h)) (fun h => kf (by have := mt (iZ_lt ha hb).mpr h; omega))
theorem z_icmp_ge {a b : Int} {off : Int} {tgt : Nat} (hd : decode I.1 pc = .ok (.if_icmp .ge off, 3)) (ht : (pc : Int) + off = (tgt : Int)) (ha : -2147483648 ≤ a ∧ a < 2147483648) (hb : -2147483648 ≤ b ∧ b < 2147483648) (kt : b ≤ a → G I mc ms Q k n tgt pl st M z) (kf : a < b → G I mc ms Q k n (pc + 3) pl st M z) : G I mc ms Q k n pc pl (vI b :: vI a :: st) M z := g_icmp_ge hd ht (fun h => kt ((iZ_le hb ha).mp h)) (fun h => kf (by have := mt (iZ_le hb ha).mpr h; omega))
theorem z_icmp_gt {a b : Int} {off : Int} {tgt : Nat} (hd : decode I.1 pc = .ok (.if_icmp .gt off, 3)) (ht : (pc : Int) + off = (tgt : Int)) (ha : -2147483648 ≤ a ∧ a < 2147483648) (hb : -2147483648 ≤ b ∧ b < 2147483648) (kt : b < a → G I mc ms Q k n tgt pl st M z) (kf : a ≤ b → G I mc ms Q k n (pc + 3) pl st M z) : G I mc ms Q k n pc pl (vI b :: vI a :: st) M z := g_icmp_gt hd ht (fun h => kt ((iZ_lt hb ha).mp h)) (fun h => kf (by have := mt (iZ_lt hb ha).mpr h; omega))
theorem z_icmp_le {a b : Int} {off : Int} {tgt : Nat} (hd : decode I.1 pc = .ok (.if_icmp .le off, 3)) (ht : (pc : Int) + off = (tgt : Int)) (ha : -2147483648 ≤ a ∧ a < 2147483648) (hb : -2147483648 ≤ b ∧ b < 2147483648) (kt : a ≤ b → G I mc ms Q k n tgt pl st M z) (kf : b < a → G I mc ms Q k n (pc + 3) pl st M z) : G I mc ms Q k n pc pl (vI b :: vI a :: st) M z := g_icmp_le hd ht (fun h => kt ((iZ_le ha hb).mp h)) (fun h => kf (by have := mt (iZ_le ha hb).mpr h; omega))
theorem z_getf {idx ci f a : Nat} {C : String} {T : u_T} {N : Nat} {ty : Nat → FieldType} {fs : List Value} {v : Value} (fl : FL I.2.2.2.1 idx ci f C T N ty) (hd : decode I.1 pc = .ok (.getfield idx, 3)) (hM : M a = some (ob ci fs)) (hv : fs[f]? = some v) (K : G I mc ms Q k n (pc + 3) pl (v :: st) M z) : G I mc ms Q k n pc pl (.ref a :: st) M z := g_getf fl hd hM hv K
theorem z_putf {idx ci f a : Nat} {C : String} {T : u_T} {N : Nat} {ty : Nat → FieldType} {fs : List Value} {v : Value} (fl : FL I.2.2.2.1 idx ci f C T N ty) (hd : decode I.1 pc = .ok (.putfield idx, 3)) (hM : M a = some (ob ci fs)) (hfin : (T f).2.2.2 = false) (hl : f < fs.length) (hn : narrow (ty f) v = v) (hft : fits (ty f) v = true) (K : ∀ M' : pM, M' a = some (ob ci (fs.set f v)) → (∀ x, x ≠ a → M' x = M x) → G I mc ms Q k n (pc + 3) pl st M' z) : G I mc ms Q k n pc pl (v :: .ref a :: st) M z := g_putf fl (Or.inl hfin) hd hM hl hn hft (K _ pU_same (fun x h => pU_ne h))
theorem z_putF {idx ci f a : Nat} {C : String} {T : u_T} {N : Nat} {ty : Nat → FieldType} {fs : List Value} {v : Value} (fl : FL I.2.2.2.1 idx ci f C T N ty) (ff : Cond.fieldLink I.2.2.2.1 idx C (T f).2.1 (T f).2.2.1 ∈ TBL) (hd : decode I.1 pc = .ok (.putfield idx, 3)) (hM : M a = some (ob ci fs)) (hfin : (T f).2.2.2 = true) (hi : I.2.2.2.2.2.2 = true) (hC : C = I.2.2.2.1) (hl : f < fs.length) (hn : narrow (ty f) v = v) (hft : fits (ty f) v = true) (K : ∀ M' : pM, M' a = some (ob ci (fs.set f v)) → (∀ x, x ≠ a → M' x = M x) → G I mc ms Q k n (pc + 3) pl st M' z) : G I mc ms Q k n pc pl (v :: .ref a :: st) M z := g_putf fl (Or.inr ⟨hfin, hi, hC, ff⟩) hd hM hl hn hft (K _ pU_same (fun x h => pU_ne h))
theorem z_iaload {a j N : Nat} {g : Nat → Int} {i : Int} (hd : decode I.1 pc = .ok (.iaload, 1)) (hM : M a = some (arI N g)) (hi : i = (j : Int)) (hj : j < N) (hN : N < 2147483648) (K : G I mc ms Q k n (pc + 1) pl (vI (g j) :: st) M z) : G I mc ms Q k n pc pl (vI i :: .ref a :: st) M z := g_iaload hd hM (by rw [iZ_toInt (by omega), hi]) hj K
theorem z_baload {a j N : Nat} {g : Nat → Int} {i : Int} (hd : decode I.1 pc = .ok (.baload, 1)) (hM : M a = some (arZ N g)) (hi : i = (j : Int)) (hj : j < N) (hN : N < 2147483648) (K : G I mc ms Q k n (pc + 1) pl (vI (g j) :: st) M z) : G I mc ms Q k n pc pl (vI i :: .ref a :: st) M z := g_baload hd hM (by rw [iZ_toInt (by omega), hi]) hj K
theorem z_aaload {a j N b : Nat} {f : Nat → Option Nat} {i : Int} (hd : decode I.1 pc = .ok (.aaload, 1)) (hM : M a = some (arQ N f)) (hi : i = (j : Int)) (hj : j < N) (hN : N < 2147483648) (hf : f j = some b) (K : G I mc ms Q k n (pc + 1) pl (.ref b :: st) M z) : G I mc ms Q k n pc pl (vI i :: .ref a :: st) M z := g_aaload hd hM (by rw [iZ_toInt (by omega), hi]) hj hf K
theorem z_iastore {a j N : Nat} {g : Nat → Int} {i v : Int} (hd : decode I.1 pc = .ok (.iastore, 1)) (hM : M a = some (arI N g)) (hi : i = (j : Int)) (hj : j < N) (hN : N < 2147483648) (K : ∀ M' : pM, M' a = some (arI N (upZ g j v)) → (∀ x, x ≠ a → M' x = M x) → G I mc ms Q k n (pc + 1) pl st M' z) : G I mc ms Q k n pc pl (vI v :: vI i :: .ref a :: st) M z := by
  refine g_iastore hd hM (by rw [iZ_toInt (by omega), hi]) hj ?_
  refine K _ ?_ (fun x h => pU_ne h)
  rw [pU_same]
  unfold arI
  congr 5
  funext x
  unfold upd upZ
  split <;> rfl
theorem z_bastore {a j N : Nat} {g : Nat → Int} {i v : Int} (hd : decode I.1 pc = .ok (.bastore, 1)) (hM : M a = some (arZ N g)) (hi : i = (j : Int)) (hj : j < N) (hN : N < 2147483648) (hv : v = 0 ∨ v = 1) (K : ∀ M' : pM, M' a = some (arZ N (upZ g j v)) → (∀ x, x ≠ a → M' x = M x) → G I mc ms Q k n (pc + 1) pl st M' z) : G I mc ms Q k n pc pl (vI v :: vI i :: .ref a :: st) M z := by
  refine g_bastore hd hM (by rw [iZ_toInt (by omega), hi]) hj (by rcases hv with rfl | rfl <;> rfl) ?_
  refine K _ ?_ (fun x h => pU_ne h)
  rw [pU_same]
  unfold arZ
  congr 5
  funext x
  unfold upd upZ
  split <;> rfl
theorem z_aastore {a j N b : Nat} {f : Nat → Option Nat} {i : Int} {vs : List Value} (hd : decode I.1 pc = .ok (.aastore, 1)) (hM : M a = some (arQ N f)) (hb : M b = some (ob 7 vs)) (hi : i = (j : Int)) (hj : j < N) (hN : N < 2147483648) (K : ∀ M' : pM, M' a = some (arQ N (va_up f j (some b))) → (∀ x, x ≠ a → M' x = M x) → G I mc ms Q k n (pc + 1) pl st M' z) : G I mc ms Q k n pc pl (.ref b :: vI i :: .ref a :: st) M z := g_aastore ⟨TX7, 8, rfl⟩ hd hM hb (by rw [iZ_toInt (by omega), hi]) hj (K _ pU_same (fun x h => pU_ne h))
theorem nI_iZ (N : Nat) : nI N = iZ N := by unfold nI iZ; exact Int32.ofInt_eq_ofNat.symm
theorem z_alenI {a N : Nat} {g : Nat → Int} (hd : decode I.1 pc = .ok (.arraylength, 1)) (hM : M a = some (arI N g)) (K : G I mc ms Q k n (pc + 1) pl (vI N :: st) M z) : G I mc ms Q k n pc pl (.ref a :: st) M z := g_alen (t := 0) (by decide) hd hM (by rw [nI_iZ]; exact K)
theorem z_alenZ {a N : Nat} {g : Nat → Int} (hd : decode I.1 pc = .ok (.arraylength, 1)) (hM : M a = some (arZ N g)) (K : G I mc ms Q k n (pc + 1) pl (vI N :: st) M z) : G I mc ms Q k n pc pl (.ref a :: st) M z := g_alen (t := 1) (by decide) hd hM (by rw [nI_iZ]; exact K)
theorem z_alenQ {a N : Nat} {g : Nat → Option Nat} (hd : decode I.1 pc = .ok (.arraylength, 1)) (hM : M a = some (arQ N g)) (K : G I mc ms Q k n (pc + 1) pl (vI N :: st) M z) : G I mc ms Q k n pc pl (.ref a :: st) M z := g_alen (t := 2) (by decide) hd hM (by rw [nI_iZ]; exact K)
theorem z_new {idx ci : Nat} {C : String} {T : u_T} {N : Nat} {ty : Nat → FieldType} {fs : List Value} (hc : CIs ci C T N ty) (hl : Cond.classLink I.2.2.2.1 idx C ∈ TBL ∧ Cond.instantiable C N ∈ TBL ∧ Cond.initialized C ∈ TBL) (hd : decode I.1 pc = .ok (.new idx, 3)) (hfs : ∀ j, j < N → defaultValue (ty j) = vp_V fs j) (hk : k + 1 ≤ mc) (hn : n + N ≤ ms) (K : ∀ M' : pM, M z = none → M' z = some (ob ci fs) → (∀ x, x ≠ z → M' x = M x) → G I mc ms Q (k + 1) (n + N) (pc + 3) pl (.ref z :: st) M' (z + 1)) : G I mc ms Q k n pc pl st M z := g_new hc hl hd hfs hk hn (fun h => K _ h pU_same (fun x h => pU_ne h))
theorem z_newI {N : Nat} {i : Int} (hd : decode I.1 pc = .ok (.newarray .int, 2)) (hi : i = (N : Int)) (hN : N ≤ 100000000) (hk : k + 1 ≤ mc) (hn : n + N ≤ ms) (K : ∀ M' : pM, M z = none → M' z = some (arI N (fun _ => 0)) → (∀ x, x ≠ z → M' x = M x) → G I mc ms Q (k + 1) (n + N) (pc + 2) pl (.ref z :: st) M' (z + 1)) : G I mc ms Q k n pc pl (vI i :: st) M z := g_newarr (t := 0) (Or.inl ⟨rfl, rfl⟩) ac_int hd (by rw [iZ_toInt (by omega), hi]) hN hk hn (fun h => K _ h pU_same (fun x h => pU_ne h))
theorem z_newZ {N : Nat} {i : Int} (hd : decode I.1 pc = .ok (.newarray .boolean, 2)) (hi : i = (N : Int)) (hN : N ≤ 100000000) (hk : k + 1 ≤ mc) (hn : n + N ≤ ms) (K : ∀ M' : pM, M z = none → M' z = some (arZ N (fun _ => 0)) → (∀ x, x ≠ z → M' x = M x) → G I mc ms Q (k + 1) (n + N) (pc + 2) pl (.ref z :: st) M' (z + 1)) : G I mc ms Q k n pc pl (vI i :: st) M z := g_newarr (t := 1) (Or.inr ⟨rfl, rfl⟩) ac_boolean hd (by rw [iZ_toInt (by omega), hi]) hN hk hn (fun h => K _ h pU_same (fun x h => pU_ne h))
theorem z_newQ {idx N : Nat} {i : Int} (hl : Cond.classLink I.2.2.2.1 idx "ContextCoder$State" ∈ TBL) (hd : decode I.1 pc = .ok (.anewarray idx, 3)) (hi : i = (N : Int)) (hN : N ≤ 100000000) (hk : k + 1 ≤ mc) (hn : n + N ≤ ms) (K : ∀ M' : pM, M z = none → M' z = some (arQ N (fun _ => none)) → (∀ x, x ≠ z → M' x = M x) → G I mc ms Q (k + 1) (n + N) (pc + 3) pl (.ref z :: st) M' (z + 1)) : G I mc ms Q k n pc pl (vI i :: st) M z := g_anewarr hl hd (by rw [iZ_toInt (by omega), hi]) hN hk hn (fun h => K _ h pU_same (fun x h => pU_ne h))
theorem z_max {idx : Nat} {a b : Int} (hl : Cond.methodLink I.2.2.2.1 idx Lib.Math.max.name ∈ TBL ∧ Cond.static Lib.Math.max.name ∈ TBL ∧ Cond.initialized "java/lang/Math" ∈ TBL ∧ Cond.code Lib.Math.max.name Lib.Math.max.code 2 (some .int) ∈ TBL) (hd : decode I.1 pc = .ok (.invokestatic idx, 3)) (hroom : 1 ≤ I.2.2.2.2.1 ∧ (st.map fun v => v.category).sum + 13 ≤ I.2.2.2.2.2.1) (hk : k ≤ mc) (hn : n ≤ ms) (ha : -2147483648 ≤ a ∧ a < 2147483648) (hb : -2147483648 ≤ b ∧ b < 2147483648) (K : G I mc ms Q k n (pc + 3) pl (vI (max a b) :: st) M z) : G I mc ms Q k n pc pl (vI b :: vI a :: st) M z := by
  refine g_max hl hd hroom hk hn ?_
  by_cases h : a < b
  · rw [if_pos ((iZ_lt ha hb).mpr h)]; rw [show max a b = b by omega] at K; exact K
  · rw [if_neg (fun q => h ((iZ_lt ha hb).mp q))]; rw [show max a b = a by omega] at K; exact K
theorem z_min {idx : Nat} {a b : Int} (hl : Cond.methodLink I.2.2.2.1 idx Lib.Math.min.name ∈ TBL ∧ Cond.static Lib.Math.min.name ∈ TBL ∧ Cond.initialized "java/lang/Math" ∈ TBL ∧ Cond.code Lib.Math.min.name Lib.Math.min.code 2 (some .int) ∈ TBL) (hd : decode I.1 pc = .ok (.invokestatic idx, 3)) (hroom : 1 ≤ I.2.2.2.2.1 ∧ (st.map fun v => v.category).sum + 13 ≤ I.2.2.2.2.2.1) (hk : k ≤ mc) (hn : n ≤ ms) (ha : -2147483648 ≤ a ∧ a < 2147483648) (hb : -2147483648 ≤ b ∧ b < 2147483648) (K : G I mc ms Q k n (pc + 3) pl (vI (min a b) :: st) M z) : G I mc ms Q k n pc pl (vI b :: vI a :: st) M z := by
  refine g_min hl hd hroom hk hn ?_
  by_cases h : b < a
  · rw [if_pos ((iZ_lt hb ha).mpr h)]; rw [show min a b = b by omega] at K; exact K
  · rw [if_neg (fun q => h ((iZ_lt hb ha).mp q))]; rw [show min a b = a by omega] at K; exact K
theorem z_minL {idx : Nat} {a b : Int} (hl : Cond.methodLink I.2.2.2.1 idx Lib.MathLoose.min_long.x ∈ TBL ∧ Cond.static Lib.MathLoose.min_long.x ∈ TBL ∧ Cond.initialized "java/lang/Math" ∈ TBL ∧ Cond.code Lib.MathLoose.min_long.x Lib.MathLoose.min_long.code 4 (some .long) ∈ TBL) (hd : decode I.1 pc = .ok (.invokestatic idx, 3)) (hroom : 1 ≤ I.2.2.2.2.1 ∧ (st.map fun v => v.category).sum + 15 ≤ I.2.2.2.2.2.1) (hk : k ≤ mc) (hn : n ≤ ms) (ha : -9223372036854775808 ≤ a ∧ a < 9223372036854775808) (hb : -9223372036854775808 ≤ b ∧ b < 9223372036854775808) (K : G I mc ms Q k n (pc + 3) pl (vL (min a b) :: st) M z) : G I mc ms Q k n pc pl (vL b :: vL a :: st) M z := by
  refine g_minL hl hd hroom hk hn ?_
  by_cases h : b < a
  · rw [if_pos ((lZ_lt hb ha).mpr h)]; rw [show min a b = b by omega] at K; exact K
  · rw [if_neg (fun q => h ((lZ_lt hb ha).mp q))]; rw [show min a b = a by omega] at K; exact K
def cpZ (f g : Nat → Int) (sp dp n : Nat) : Nat → Int := fun k => if dp ≤ k ∧ k < dp + n then f (sp + (k - dp)) else g k
theorem z_copy {idx a0 a n0 n1 js jd jn : Nat} {f g : Nat → Int} {sp dp i : Int} (hl : Cond.methodLink I.2.2.2.1 idx arraycopyName ∈ TBL ∧ Cond.native arraycopyName ∈ TBL ∧ Cond.static arraycopyName ∈ TBL ∧ Cond.initialized "java/lang/System" ∈ TBL) (hd : decode I.1 pc = .ok (.invokestatic idx, 3)) (hroom : 1 ≤ I.2.2.2.2.1 ∧ (st.map fun v => v.category).sum + (nativeFrameWords "java/lang/System" "arraycopy" 5 + 11) ≤ I.2.2.2.2.2.1) (hM0 : M a0 = some (arI n0 f)) (hM : M a = some (arI n1 g)) (hs : sp = (js : Int)) (hdp : dp = (jd : Int)) (hi : i = (jn : Int)) (h4 : js + jn ≤ n0) (h5 : jd + jn ≤ n1) (hn0 : n0 < 2147483648) (hn1 : n1 < 2147483648)
    (K : ∀ M' : pM, M' a = some (arI n1 (cpZ f g js jd jn)) → (∀ x, x ≠ a → M' x = M x) → G I mc ms Q k n (pc + 3) pl st M' z) : G I mc ms Q k n pc pl (vI i :: vI dp :: .ref a :: vI sp :: .ref a0 :: st) M z := by
  refine g_copy hl hd hroom hM0 hM (by rw [iZ_toInt (by omega), hs]) (by rw [iZ_toInt (by omega), hdp]) (by rw [iZ_toInt (by omega), hi]) h4 h5 ?_
  refine K _ ?_ (fun x h => pU_ne h)
  rw [pU_same]
  unfold arI
  congr 5
  funext x
  unfold va_cpy cpZ
  split <;> rfl
/-- calls -/
theorem z_callVR {J : MI} {y : MethodName} {idx nA b ci : Nat} {As rest fs : List Value} {T : u_T} {N : Nat} {v : Value} (hd : decode I.1 pc = .ok (.invokevirtual idx, 3)) (lm : LkM I.2.2.2.1 idx y) (lk : LkV y J nA) (hC : CR J y (.ref b :: As) M z (some v)) (hst : st = As.reverse ++ .ref b :: rest) (hn : As.length = nA) (hM : M b = some (ob ci fs)) (hci : classes[ci]? = some (y.cls, T, N)) (hroom : pRoom I J) (hW : (rest.map fun v => v.category).sum ≤ 8) (hk : k ≤ mc) (hs : n ≤ ms) (K : G I mc ms Q k n (pc + 3) pl (v :: rest) M z) : G I mc ms Q k n pc pl st M z :=
  g_callV hd lm lk hC hst hn hM hci hroom hW hk hs (fun M' z' r h => by obtain ⟨rfl, rfl, rfl⟩ := h; exact K)
theorem z_callVV {J : MI} {y : MethodName} {idx nA b ci : Nat} {As rest fs : List Value} {T : u_T} {N : Nat} {P : pM → Option Value → Prop} (hd : decode I.1 pc = .ok (.invokevirtual idx, 3)) (lm : LkM I.2.2.2.1 idx y) (lk : LkV y J nA) (hC : CW J y (.ref b :: As) M z P) (hst : st = As.reverse ++ .ref b :: rest) (hn : As.length = nA) (hM : M b = some (ob ci fs)) (hci : classes[ci]? = some (y.cls, T, N)) (hroom : pRoom I J) (hW : (rest.map fun v => v.category).sum ≤ 8) (hk : k ≤ mc) (hs : n ≤ ms) (K : ∀ M' r, P M' r → G I mc ms Q k n (pc + 3) pl (r.toList ++ rest) M' z) : G I mc ms Q k n pc pl st M z :=
  g_callV hd lm lk hC hst hn hM hci hroom hW hk hs (fun M' z' r h => by obtain ⟨rfl, h⟩ := h; exact K M' r h)
theorem z_callSR {J : MI} {y : MethodName} {idx nA : Nat} {As rest : List Value} {v : Value} (hd : decode I.1 pc = .ok (.invokestatic idx, 3)) (lm : LkM I.2.2.2.1 idx y) (lk : LkS y J nA) (hC : CR J y As M z (some v)) (hst : st = As.reverse ++ rest) (hn : As.length = nA) (hroom : pRoom I J) (hW : (rest.map fun v => v.category).sum ≤ 8) (hk : k ≤ mc) (hs : n ≤ ms) (K : G I mc ms Q k n (pc + 3) pl (v :: rest) M z) : G I mc ms Q k n pc pl st M z :=
  g_callS hd lm lk hC hst hn hroom hW hk hs (fun M' z' r h => by obtain ⟨rfl, rfl, rfl⟩ := h; exact K)
theorem z_callSV {J : MI} {y : MethodName} {idx nA : Nat} {As rest : List Value} {P : pM → Option Value → Prop} (hd : decode I.1 pc = .ok (.invokestatic idx, 3)) (lm : LkM I.2.2.2.1 idx y) (lk : LkS y J nA) (hC : CW J y As M z P) (hst : st = As.reverse ++ rest) (hn : As.length = nA) (hroom : pRoom I J) (hW : (rest.map fun v => v.category).sum ≤ 8) (hk : k ≤ mc) (hs : n ≤ ms) (K : ∀ M' r, P M' r → G I mc ms Q k n (pc + 3) pl (r.toList ++ rest) M' z) : G I mc ms Q k n pc pl st M z :=
  g_callS hd lm lk hC hst hn hroom hW hk hs (fun M' z' r h => by obtain ⟨rfl, h⟩ := h; exact K M' r h)
end GZ
