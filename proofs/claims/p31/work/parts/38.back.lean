/-! the way back: what the bytes of a code are worth to the decoder -/
/-- the value of the first n bytes of a code; bytes behind its end are 0 -/
def bv (cs : List Int) : Nat → Int
  | 0 => 0
  | n + 1 => bv cs n * 256 + cs.getD n 0
/-- the code lies in the coder's range -/
def inC (cs : List Int) (low range : Int) (out : List Int) : Prop := vl out * 4294967296 + low ≤ bv cs (out.length + 4) ∧ bv cs (out.length + 4) < vl out * 4294967296 + low + range
def inE (cs : List Int) (e : es) : Prop := inC cs e.1 e.2.1 e.2.2.1
/-- the decoder's state that belongs to a coder's -/
def dd (cs : List Int) (low range : Int) (out : List Int) : ds := (out.length + 4, bv cs (out.length + 4) - (vl out * 4294967296 + low), range)
def dE (cs : List Int) (e : es) : ds := dd cs e.1 e.2.1 e.2.2.1
theorem inC_shf1 {cs : List Int} (hb : okB cs) {low range : Int} {out : List Int} (h : inC cs (low % 16777216 * 256) (range * 256) (out ++ [low / 16777216])) : inC cs low range out := by
  unfold inC at h ⊢
  rw [vl_snoc, List.length_append, List.length_singleton, show out.length + 1 + 4 = (out.length + 4) + 1 by omega, show bv cs (out.length + 4 + 1) = bv cs (out.length + 4) * 256 + cs.getD (out.length + 4) 0 from rfl] at h
  have := hb.get (out.length + 4)
  omega
theorem inC_shf {cs : List Int} (hb : okB cs) : ∀ (n : Nat) {low range : Int} {out : List Int}, inC cs (shf n low range out).1 (shf n low range out).2.1 (shf n low range out).2.2 → inC cs low range out
  | 0, _, _, _, h => h
  | n + 1, low, range, out, h => by
    rw [shf] at h
    by_cases hr : range ≤ 16777216
    · rw [if_pos hr] at h
      exact inC_shf1 hb (inC_shf hb n h)
    · rw [if_neg hr] at h
      exact h
theorem dsf_shf {cs : List Int} (hb : okB cs) : ∀ (n : Nat) {low range : Int} {out : List Int}, inC cs (shf n low range out).1 (shf n low range out).2.1 (shf n low range out).2.2 → dsf cs n (dd cs low range out) = dd cs (shf n low range out).1 (shf n low range out).2.1 (shf n low range out).2.2
  | 0, _, _, _, _ => rfl
  | n + 1, low, range, out, h => by
    rw [shf] at h ⊢
    rw [dsf]
    by_cases hr : range ≤ 16777216
    · rw [if_pos hr] at h ⊢
      rw [if_pos (show (dd cs low range out).2.2 ≤ 16777216 from hr)]
      have h1 := inC_shf hb n h
      have e : ((sh1 cs (dd cs low range out)).1, (sh1 cs (dd cs low range out)).2.1, (dd cs low range out).2.2 * 256) = dd cs (low % 16777216 * 256) (range * 256) (out ++ [low / 16777216]) := by
        unfold inC at h1
        rw [vl_snoc, List.length_append, List.length_singleton, show out.length + 1 + 4 = (out.length + 4) + 1 by omega, show bv cs (out.length + 4 + 1) = bv cs (out.length + 4) * 256 + cs.getD (out.length + 4) 0 from rfl] at h1
        unfold dd sh1
        rw [vl_snoc, List.length_append, List.length_singleton, show out.length + 1 + 4 = (out.length + 4) + 1 by omega, show bv cs (out.length + 4 + 1) = bv cs (out.length + 4) * 256 + cs.getD (out.length + 4) 0 from rfl]
        refine Prod.ext rfl (Prod.ext ?_ rfl)
        dsimp only
        omega
      rw [e]
      exact dsf_shf hb n h
    · rw [if_neg hr] at h ⊢
      rw [if_neg (show ¬ (dd cs low range out).2.2 ≤ 16777216 from hr)]
/-- an interval that was coded is found again -/
theorem inE_eiv {cs : List Int} (hb : okB cs) {e : es} {n : Nat} {x : iv} (hk : okN e n) (hx : okI x) (hc : cI e.1 e.2.1 e.2.2.1) (h : inE cs (eiv e x)) : inE cs e ∧ (x.1 ≤ dnum (dE cs e) x.2.2 ∧ dnum (dE cs e) x.2.2 < x.2.1) ∧ div_ cs (dE cs e) x = dE cs (eiv e x) := by
  obtain ⟨low, range, out, lng⟩ := e
  obtain ⟨h1, h2, h3, -, -, -⟩ := hk
  dsimp only at h1 h2 h3 hc
  obtain ⟨q1, q2, q3, q4, q5, q6, q7⟩ := ivr_b h2 hx
  obtain ⟨u1, u2, u3, u4⟩ := hx
  have hc1 : cI (low + range / x.2.2 * x.1) (ivr range x) out := by unfold cI at hc ⊢; omega
  have hcl : (cry out).1.length = out.length := (cryL_ok out.length out 0 h3).2.1
  have key : ∃ (lw : Int) (ot : List Int), (eiv (low, range, out, lng) x).1 = (shf 4 lw (ivr range x) ot).1 ∧ (eiv (low, range, out, lng) x).2.1 = (shf 4 lw (ivr range x) ot).2.1 ∧ (eiv (low, range, out, lng) x).2.2.1 = (shf 4 lw (ivr range x) ot).2.2 ∧ vl ot * 4294967296 + lw = vl out * 4294967296 + low + range / x.2.2 * x.1 ∧ ot.length = out.length := by
    by_cases hh : 4294967296 ≤ low + range / x.2.2 * x.1
    · refine ⟨low + range / x.2.2 * x.1 - 4294967296, (cry out).1, ?_, ?_, ?_, ?_, hcl⟩
      · unfold eiv; simp only [if_pos hh]
      · unfold eiv; simp only [if_pos hh]
      · unfold eiv; simp only [if_pos hh]
      · rw [cry_vl (cI_255 hc1 hh (by omega))]; omega
    · refine ⟨low + range / x.2.2 * x.1, out, ?_, ?_, ?_, ?_, rfl⟩
      · unfold eiv; simp only [if_neg hh]
      · unfold eiv; simp only [if_neg hh]
      · unfold eiv; simp only [if_neg hh]
      · omega
  obtain ⟨lw, ot, e1, e2, e3, k2, k3⟩ := key
  unfold inE at h
  rw [e1, e2, e3] at h
  have hi := inC_shf hb 4 h
  unfold inC at hi
  rw [k3] at hi
  have hq : 0 < range / x.2.2 := by omega
  have hdn : dnum (dE cs (low, range, out, lng)) x.2.2 = min (x.2.2 - 1) ((bv cs (out.length + 4) - (vl out * 4294967296 + low)) / (range / x.2.2)) := rfl
  refine ⟨?_, ⟨?_, ?_⟩, ?_⟩
  · show inC cs low range out
    unfold inC
    omega
  · rw [hdn]
    have := (Int.le_ediv_iff_mul_le hq (a := x.1) (b := bv cs (out.length + 4) - (vl out * 4294967296 + low))).mpr (by rw [Int.mul_comm]; omega)
    omega
  · rw [hdn]
    by_cases hbt : x.2.1 < x.2.2
    · have e6 := q6 hbt
      have := (Int.ediv_lt_iff_lt_mul hq (a := bv cs (out.length + 4) - (vl out * 4294967296 + low)) (b := x.2.1)).mpr (by
        rw [Int.mul_comm x.2.1]
        rw [Int.mul_sub] at e6
        omega)
      omega
    · omega
  · have e : ((out.length + 4, bv cs (out.length + 4) - (vl out * 4294967296 + low) - range / x.2.2 * x.1, ivr range x) : ds) = dd cs lw (ivr range x) ot := by
      unfold dd
      rw [k3]
      refine Prod.ext rfl (Prod.ext ?_ rfl)
      dsimp only
      omega
    show dsf cs 4 (out.length + 4, bv cs (out.length + 4) - (vl out * 4294967296 + low) - range / x.2.2 * x.1, ivr range x) = dd cs (eiv (low, range, out, lng) x).1 (eiv (low, range, out, lng) x).2.1 (eiv (low, range, out, lng) x).2.2.1
    rw [e, e1, e2, e3]
    exact dsf_shf hb 4 h
theorem dbeg_dE {cs : List Int} (hb : okB cs) : dbeg cs = dE cs (0, 4294967296, [], 0) := by
  have h0 := hb.get 0
  have h1 := hb.get 1
  have h2 := hb.get 2
  have h3 := hb.get 3
  have e : ((((0 * 256 + cs.getD 0 0) % 4294967296 * 256 + cs.getD 1 0) % 4294967296 * 256 + cs.getD 2 0) % 4294967296 * 256 + cs.getD 3 0) % 4294967296 = ((((0 * 256 + cs.getD 0 0) * 256 + cs.getD 1 0) * 256 + cs.getD 2 0) * 256 + cs.getD 3 0) - (0 * 4294967296 + 0) := by omega
  exact Prod.ext rfl (Prod.ext e rfl)
/-! the end of a code -/
theorem zf_lt {low range : Int} (hl : 0 ≤ low ∧ low < 4294967296) (hr : 0 < range) : ∀ n : Nat, lm low (zf low range n) < low + range
  | 0 => by
    have := lm_b (low := low) 0 hl (by omega)
    rw [show (2 : Int) ^ (8 * 0) = 1 by decide] at this
    rw [zf]
    omega
  | n + 1 => by
    rw [zf]
    split
    · exact zf_lt hl hr n
    · omega
theorem getD_snoc0 (ys : List Int) (i : Nat) : (ys ++ [0]).getD i 0 = ys.getD i 0 := by
  by_cases h : i < ys.length
  · rw [List.getD_eq_getElem?_getD, List.getElem?_append_left h, ← List.getD_eq_getElem?_getD]
  · rw [List.getD_eq_getElem?_getD, List.getD_eq_getElem?_getD, List.getElem?_append_right (by omega), List.getElem?_eq_none (show ys.length ≤ i by omega)]
    by_cases q : i - ys.length = 0
    · rw [q]; rfl
    · rw [List.getElem?_eq_none (by simp; omega)]
theorem strip_getD : ∀ (n : Nat) (ys : List Int), ys.length = n → ∀ i, (strip ys).getD i 0 = ys.getD i 0
  | 0, ys, h, i => by rw [List.eq_nil_of_length_eq_zero h]; rfl
  | n + 1, ys, h, i => by
    obtain ⟨p, d, rfl⟩ : ∃ p d, ys = p ++ [d] := ⟨_, _, snoc_of h⟩
    rw [List.length_append, List.length_singleton] at h
    by_cases q : d = 0
    · rw [q, strip_0, getD_snoc0]; exact strip_getD n p (by omega) i
    · rw [strip_n _ q]
theorem strip_last : ∀ (n : Nat) (ys : List Int), ys.length = n → ∀ k, (strip ys).length = k + 1 → (strip ys).getD k 0 ≠ 0
  | 0, ys, h, k, hk => by rw [List.eq_nil_of_length_eq_zero h] at hk; exact absurd hk (by simp [strip])
  | n + 1, ys, h, k, hk => by
    obtain ⟨p, d, rfl⟩ : ∃ p d, ys = p ++ [d] := ⟨_, _, snoc_of h⟩
    rw [List.length_append, List.length_singleton] at h
    by_cases q : d = 0
    · rw [q, strip_0] at hk ⊢
      exact strip_last n p (by omega) k hk
    · rw [strip_n _ q] at hk ⊢
      rw [List.length_append, List.length_singleton] at hk
      rw [List.getD_eq_getElem?_getD, List.getElem?_append_right (by omega), show k - p.length = 0 by omega]
      exact q
theorem bv_cong {xs ys : List Int} (h : ∀ i, xs.getD i 0 = ys.getD i 0) : ∀ n : Nat, bv xs n = bv ys n
  | 0 => rfl
  | n + 1 => by rw [bv, bv, bv_cong h n, h]
theorem bv_app : ∀ (n : Nat) (ys u : List Int), ys.length = n → bv (ys ++ u) n = vl ys
  | 0, ys, u, h => by rw [List.eq_nil_of_length_eq_zero h]; rfl
  | n + 1, ys, u, h => by
    obtain ⟨p, d, rfl⟩ : ∃ p d, ys = p ++ [d] := ⟨_, _, snoc_of h⟩
    rw [List.length_append, List.length_singleton] at h
    have hp : p.length = n := by omega
    have hg : (p ++ ([d] ++ u)).getD n 0 = d := by
      rw [List.getD_eq_getElem?_getD, List.getElem?_append_right (by omega), hp, Nat.sub_self]; rfl
    rw [bv, List.append_assoc, bv_app n p _ hp, vl_snoc, hg]
    omega
theorem bv_four (ys u : List Int) : bv (ys ++ u) (ys.length + 4) = (((vl ys * 256 + u.getD 0 0) * 256 + u.getD 1 0) * 256 + u.getD 2 0) * 256 + u.getD 3 0 := by
  have g : ∀ j, (ys ++ u).getD (ys.length + j) 0 = u.getD j 0 := fun j => by
    rw [List.getD_eq_getElem?_getD, List.getElem?_append_right (by omega), Nat.add_sub_cancel_left, ← List.getD_eq_getElem?_getD]
  show (((bv (ys ++ u) ys.length * 256 + (ys ++ u).getD (ys.length + 0) 0) * 256 + (ys ++ u).getD (ys.length + 1) 0) * 256 + (ys ++ u).getD (ys.length + 2) 0) * 256 + (ys ++ u).getD (ys.length + 3) 0 = _
  rw [g, g, g, g, bv_app _ _ _ rfl]
theorem byt_bv {v : Int} {z : Nat} (hz : z ≤ 4) (hv : 0 ≤ v ∧ v < 4294967296) (hm : v % 2 ^ (8 * z) = 0) (ys : List Int) : bv (ys ++ byt v (4 - z)) (ys.length + 4) = vl ys * 4294967296 + v := by
  rw [bv_four]
  have p0 : (2 : Int) ^ (24 - 8 * 0) = 16777216 := by decide
  have p1 : (2 : Int) ^ (24 - 8 * 1) = 65536 := by decide
  have p2 : (2 : Int) ^ (24 - 8 * 2) = 256 := by decide
  have p3 : (2 : Int) ^ (24 - 8 * 3) = 1 := by decide
  match z, hz, hm with
  | 0, _, _ =>
    show (((vl ys * 256 + v / 2 ^ (24 - 8 * 0) % 256) * 256 + v / 2 ^ (24 - 8 * 1) % 256) * 256 + v / 2 ^ (24 - 8 * 2) % 256) * 256 + v / 2 ^ (24 - 8 * 3) % 256 = _
    rw [p0, p1, p2, p3]
    omega
  | 1, _, hm =>
    rw [show (2 : Int) ^ (8 * 1) = 256 by decide] at hm
    show (((vl ys * 256 + v / 2 ^ (24 - 8 * 0) % 256) * 256 + v / 2 ^ (24 - 8 * 1) % 256) * 256 + v / 2 ^ (24 - 8 * 2) % 256) * 256 + 0 = _
    rw [p0, p1, p2]
    omega
  | 2, _, hm =>
    rw [show (2 : Int) ^ (8 * 2) = 65536 by decide] at hm
    show (((vl ys * 256 + v / 2 ^ (24 - 8 * 0) % 256) * 256 + v / 2 ^ (24 - 8 * 1) % 256) * 256 + 0) * 256 + 0 = _
    rw [p0, p1]
    omega
  | 3, _, hm =>
    rw [show (2 : Int) ^ (8 * 3) = 16777216 by decide] at hm
    show (((vl ys * 256 + v / 2 ^ (24 - 8 * 0) % 256) * 256 + 0) * 256 + 0) * 256 + 0 = _
    rw [p0]
    omega
  | 4, _, hm =>
    rw [show (2 : Int) ^ (8 * 4) = 4294967296 by decide] at hm
    show (((vl ys * 256 + 0) * 256 + 0) * 256 + 0) * 256 + 0 = _
    omega
theorem inE_fin {e : es} {n : Nat} (hk : okN e n) (hc : cI e.1 e.2.1 e.2.2.1) : inE (efin e).2.2.1 e := by
  obtain ⟨low, range, out, lng⟩ := e
  obtain ⟨h1, h2, h3, -, -, -⟩ := hk
  dsimp only at h1 h2 h3 hc
  have hz := zf_le low range 4
  have hl := zf_lt h1 (show 0 < range by omega) 4
  have hb := lm_b (low := low) (zf low range 4) h1 hz
  have hm : lm low (zf low range 4) % 2 ^ (8 * zf low range 4) = 0 := by unfold lm; exact Int.mul_emod_left _ _
  have hcl : (cry out).1.length = out.length := (cryL_ok out.length out 0 h3).2.1
  have e : (efin (low, range, out, lng)).2.2.1 = if 4294967296 ≤ lm low (zf low range 4) then strip ((cry out).1 ++ byt 0 (4 - zf low range 4)) else strip (out ++ byt (lm low (zf low range 4)) (4 - zf low range 4)) := by
    unfold efin
    simp only
    split <;> rfl
  show inC (efin (low, range, out, lng)).2.2.1 low range out
  rw [e]
  generalize zf low range 4 = z at hz hl hb hm
  unfold inC
  by_cases hv : 4294967296 ≤ lm low z
  · rw [if_pos hv, bv_cong (strip_getD _ _ rfl)]
    have hx := cI_255 (low := 4294967296) (range := low + range - 4294967296) (out := out) (by unfold cI at hc ⊢; omega) (Int.le_refl _) (by omega)
    have := byt_bv hz (v := 0) (by omega) (by simp) (cry out).1
    rw [hcl, cry_vl hx] at this
    rw [this]
    omega
  · rw [if_neg hv, bv_cong (strip_getD _ _ rfl), byt_bv hz (by omega) hm]
    omega
