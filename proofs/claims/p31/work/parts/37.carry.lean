/-! what the bytes of a code are worth, how many there are -/
def vl (ys : List Int) : Int := ys.foldl (fun a b => 256 * a + b) 0
theorem vl_snoc (ys : List Int) (x : Int) : vl (ys ++ [x]) = 256 * vl ys + x := by unfold vl; rw [List.foldl_append]; rfl
theorem vl_set : ∀ (ys : List Int) (a x : Int) (n : Nat), n < ys.length → (ys.set n x).foldl (fun a b => 256 * a + b) a = ys.foldl (fun a b => 256 * a + b) a + (x - ys.getD n 0) * 256 ^ (ys.length - 1 - n)
  | [], _, _, _, h => absurd h (Nat.not_lt_zero _)
  | y :: ys, a, x, 0, _ => by
    have key : ∀ (ys : List Int) (a b : Int), ys.foldl (fun a b => 256 * a + b) (a + b) = ys.foldl (fun a b => 256 * a + b) a + b * 256 ^ ys.length := by
      intro ys
      induction ys with
      | nil => intro a b; simp
      | cons y ys ih =>
        intro a b
        rw [List.foldl_cons, List.foldl_cons, show 256 * (a + b) + y = (256 * a + y) + 256 * b by omega, ih, List.length_cons, Int.pow_succ]
        congr 1
        rw [Int.mul_comm 256 b, Int.mul_assoc, Int.mul_comm 256]
    rw [List.set_cons_zero, List.foldl_cons, List.foldl_cons, show 256 * a + x = (256 * a + y) + (x - y) by omega, key]
    simp
  | y :: ys, a, x, n + 1, h => by
    rw [List.set_cons_succ, List.foldl_cons, List.foldl_cons, vl_set ys _ x n (by rw [List.length_cons] at h; omega), List.getD_cons_succ, List.length_cons]
    congr 2
    rw [List.length_cons] at h
    rw [show ys.length + 1 - 1 - (n + 1) = ys.length - 1 - n by omega]
theorem vl_255 : ∀ (n : Nat) (ys : List Int), ys.length = n → (∀ i, i < n → ys.getD i 0 = 255) → vl ys = 256 ^ n - 1
  | 0, ys, h, _ => by rw [List.eq_nil_of_length_eq_zero h]; rfl
  | n + 1, ys, h, hx => by
    have hs := snoc_of h
    rw [hs, vl_snoc, vl_255 n (ys.take n) (by rw [List.length_take]; omega) (fun i hi => by
      rw [← hx i (by omega), List.getD_eq_getElem?_getD, List.getD_eq_getElem?_getD, List.getElem?_take_of_lt hi]), hx n (by omega), Int.pow_succ]
    omega
theorem cryL_vl : ∀ (n : Nat) (ys : List Int) (c : Int), n ≤ ys.length → (∃ i, i < n ∧ ys.getD i 0 ≠ 255) → vl (cryL ys c n).1 = vl ys + 256 ^ (ys.length - n)
  | 0, ys, c, _, ⟨i, hi, _⟩ => absurd hi (Nat.not_lt_zero _)
  | n + 1, ys, c, h, ⟨i, hi, hx⟩ => by
    rw [cryL]
    split
    · next e =>
      have e2 : i < n := by
        by_cases q : i = n
        · rw [q] at hx; exact absurd e hx
        · omega
      have hg : (ys.set n 0).getD i 0 ≠ 255 := by
        rw [List.getD_eq_getElem?_getD, List.getElem?_set_ne (by omega), ← List.getD_eq_getElem?_getD]; exact hx
      rw [cryL_vl n (ys.set n 0) (c + 1) (by rw [List.length_set]; omega) ⟨i, e2, hg⟩]
      rw [show vl (ys.set n 0) = vl ys + (0 - ys.getD n 0) * 256 ^ (ys.length - 1 - n) from vl_set ys 0 0 n (by omega), List.length_set, e]
      rw [show ys.length - n = (ys.length - (n + 1)) + 1 by omega, show ys.length - 1 - n = ys.length - (n + 1) by omega, Int.pow_succ]
      omega
    · next e =>
      dsimp only
      rw [show vl (ys.set n (ys.getD n 0 + 1)) = vl ys + (ys.getD n 0 + 1 - ys.getD n 0) * 256 ^ (ys.length - 1 - n) from vl_set ys 0 _ n (by omega)]
      rw [show ys.length - 1 - n = ys.length - (n + 1) by omega, show ys.getD n 0 + 1 - ys.getD n 0 = 1 by omega, Int.one_mul]
theorem cry_vl {ys : List Int} (h : ∃ i, i < ys.length ∧ ys.getD i 0 ≠ 255) : vl (cry ys).1 = vl ys + 1 := by
  have := cryL_vl ys.length ys 0 (Nat.le_refl _) h
  rw [Nat.sub_self, Int.pow_zero] at this
  exact this
/-- the code never grows past what its bytes can hold -/
def cI (low range : Int) (out : List Int) : Prop := vl out * 4294967296 + low + range ≤ 256 ^ out.length * 4294967296
theorem cI_255 {low range : Int} {out : List Int} (h : cI low range out) (hl : 4294967296 ≤ low) (hr : 0 < range) : ∃ i, i < out.length ∧ out.getD i 0 ≠ 255 := by
  by_cases hx : ∃ i, i < out.length ∧ out.getD i 0 ≠ 255
  · exact hx
  · exfalso
    have h2 := vl_255 out.length out rfl (fun i hi => by
      by_cases q : out.getD i 0 = 255
      · exact q
      · exact absurd ⟨i, hi, q⟩ hx)
    unfold cI at h
    rw [h2] at h
    omega
theorem cI_shf1 {low range : Int} {out : List Int} (h : cI low range out) : cI (low % 16777216 * 256) (range * 256) (out ++ [low / 16777216]) := by
  unfold cI at h ⊢
  rw [vl_snoc, List.length_append, List.length_singleton, Int.pow_succ]
  omega
theorem cI_shf (n : Nat) : ∀ {low range : Int} {out : List Int}, cI low range out → cI (shf n low range out).1 (shf n low range out).2.1 (shf n low range out).2.2 := by
  induction n with
  | zero =>
    intro low range out h
    rw [show shf 0 low range out = (low, range, out) from rfl]
    dsimp only
    exact h
  | succ n ih =>
    intro low range out h
    rw [shf]
    split
    · exact ih (cI_shf1 h)
    · dsimp only
      exact h
theorem cI_eiv {e : es} {n : Nat} {x : iv} (hk : okN e n) (hx : okI x) (h : cI e.1 e.2.1 e.2.2.1) : cI (eiv e x).1 (eiv e x).2.1 (eiv e x).2.2.1 := by
  obtain ⟨low, range, out, lng⟩ := e
  obtain ⟨h1, h2, h3, h4, h5, h6⟩ := hk
  simp only at h1 h2 h3 h4 h5 h6 h
  obtain ⟨q1, q2, q3, q4, q5, -⟩ := ivr_b h2 hx
  have hc1 : cI (low + range / x.2.2 * x.1) (ivr range x) out := by unfold cI at h ⊢; omega
  have hcl := (cryL_ok out.length out 0 h3).2.1
  unfold eiv
  simp only
  split
  · next hh =>
    have hv := cry_vl (cI_255 hc1 hh (by omega))
    refine cI_shf 4 ?_
    unfold cI at hc1 ⊢
    have e : (cry out).1.length = out.length := hcl
    rw [hv, e]
    omega
  · exact cI_shf 4 hc1
theorem shf_len : ∀ (m n : Nat) {low range : Int} {out : List Int}, m ≤ n → 16777216 < range * 256 ^ m → (shf n low range out).2.2.length ≤ out.length + m
  | 0, 0, low, range, out, _, _ => Nat.le_refl _
  | 0, n + 1, low, range, out, _, h => by
    rw [shf, if_neg (by omega)]; exact Nat.le_refl _
  | m + 1, 0, low, range, out, hm, _ => absurd hm (by omega)
  | m + 1, n + 1, low, range, out, hm, h => by
    rw [shf]
    split
    · have := shf_len m n (low := low % 16777216 * 256) (range := range * 256) (out := out ++ [low / 16777216]) (by omega) (by rw [Int.mul_assoc, ← Int.pow_succ']; exact h)
      rw [List.length_append, List.length_singleton] at this
      omega
    · dsimp only; omega
theorem ivr_q {range : Int} {x : iv} (hr : 16777216 < range ∧ range ≤ 4294967296) (hx : okI x) : range / x.2.2 ≤ ivr range x := by
  obtain ⟨u1, u2, u3, u4⟩ := hx
  have hq : 0 ≤ range / x.2.2 := Int.ediv_nonneg (by omega) (by omega)
  unfold ivr
  split
  · have := Int.mul_le_mul_of_nonneg_left (show (1 : Int) ≤ x.2.1 - x.1 by omega) hq
    omega
  · have e : x.2.1 = x.2.2 := by omega
    have h1 := Int.mul_le_mul_of_nonneg_left (show x.1 + 1 ≤ x.2.2 by omega) hq
    have h2 := Int.ediv_mul_le range (show x.2.2 ≠ 0 by omega)
    rw [Int.mul_add, Int.mul_one] at h1
    omega
theorem ediv_anti {r s t : Int} (hr : 0 ≤ r) (ht : 0 < t) (h : t ≤ s) : r / s ≤ r / t := by
  have h1 := Int.ediv_mul_le r (show s ≠ 0 by omega)
  have h2 : 0 ≤ r / s := Int.ediv_nonneg hr (by omega)
  have h3 := Int.mul_le_mul_of_nonneg_left h h2
  exact (Int.le_ediv_iff_mul_le ht).mpr (by omega)
/-- at most so many bytes come with an interval -/
def ib (x : iv) : Nat := if x.2.2 ≤ 96 then 1 else if x.2.2 ≤ 1096 then 2 else 4
theorem eiv_len {e : es} {n : Nat} {x : iv} (hk : okN e n) (hx : okI x) : (eiv e x).2.2.1.length ≤ e.2.2.1.length + ib x := by
  obtain ⟨low, range, out, lng⟩ := e
  obtain ⟨h1, h2, h3, h4, h5, h6⟩ := hk
  simp only at h1 h2 h3 h4 h5 h6
  have hq := ivr_q h2 hx
  obtain ⟨u1, u2, u3, u4⟩ := hx
  have hb := ivr_b h2 ⟨u1, u2, u3, u4⟩
  have hlen : ∀ (lw : Int) (o2 : List Int), (shf 4 lw (ivr range x) o2).2.2.length ≤ o2.length + ib x := fun lw o2 => by
    unfold ib
    split
    · next h =>
      refine shf_len 1 4 (by omega) ?_
      have h1 : range / 96 ≤ range / x.2.2 := ediv_anti (by omega) (by omega) h
      have h2 : 174762 ≤ range / 96 := by omega
      omega
    · split
      · next h =>
        refine shf_len 2 4 (by omega) ?_
        have h1 : range / 1096 ≤ range / x.2.2 := ediv_anti (by omega) (by omega) h
        have h2 : 15307 ≤ range / 1096 := by omega
        omega
      · refine shf_len 4 4 (by omega) ?_
        omega
  have hcl := (cryL_ok out.length out 0 h3).2.1
  unfold eiv
  simp only
  split
  · have e : (cry out).1.length = out.length := hcl
    rw [← e]
    exact hlen _ _
  · exact hlen _ _
