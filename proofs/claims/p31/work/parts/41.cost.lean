/-! costs are never negative; what an account tells; the guess; weights -/
theorem lgI_mono : ∀ (n : Nat) (x y s : Int), 0 ≤ x → x ≤ y → lgI n x s ≤ lgI n y s
  | 0, x, y, s, _, _ => Int.le_refl _
  | n + 1, x, y, s, h0, h => by
    have h1 : x * x / 1073741824 ≤ y * y / 1073741824 := Int.ediv_le_ediv (by decide) (Int.mul_le_mul h h h0 (by omega))
    have h2 : 0 ≤ x * x / 1073741824 := Int.ediv_nonneg (Int.mul_nonneg h0 h0) (by decide)
    rw [lgI, lgI]
    generalize x * x / 1073741824 = a at h1 h2
    generalize y * y / 1073741824 = b at h1
    by_cases ha : 2147483648 ≤ a
    · rw [if_pos ha, if_pos (by omega)]
      exact lgI_mono n _ _ _ (by omega) (by omega)
    · rw [if_neg ha]
      by_cases hb : 2147483648 ≤ b
      · rw [if_pos hb]
        have g1 := lgI_rng n a s
        have g2 := lgI_rng n (b / 2) (s + 2 ^ n)
        omega
      · rw [if_neg hb]
        exact lgI_mono n _ _ _ h2 h1
theorem lgf_mono {a b : Int} (h1 : 1 ≤ a) (h : a ≤ b) (hb : b < 2147483648) : lgf a ≤ lgf b := by
  unfold lgf
  rw [if_neg (by omega), if_neg (by omega)]
  unfold lgz
  have ka := log2_b (v := a.toNat) (by omega)
  have kb := log2_b (v := b.toNat) (by omega)
  have hk : Nat.log2 a.toNat < Nat.log2 b.toNat + 1 := (Nat.pow_lt_pow_iff_right (a := 2) (by decide)).mp (by omega)
  by_cases e : Nat.log2 a.toNat = Nat.log2 b.toNat
  · rw [e]
    exact lgI_mono 16 _ _ _ (Int.mul_nonneg (by omega) (Int.le_of_lt (Int.pow_pos (by decide)))) (Int.mul_le_mul_of_nonneg_right h (Int.le_of_lt (Int.pow_pos (by decide))))
  · have g1 := lgI_rng 16 (a * 2 ^ (30 - Nat.log2 a.toNat)) (65536 * (Nat.log2 a.toNat : Int))
    have g2 := lgI_rng 16 (b * 2 ^ (30 - Nat.log2 b.toNat)) (65536 * (Nat.log2 b.toNat : Int))
    rw [show (2 : Int) ^ 16 = 65536 by decide] at g1 g2
    omega
theorem cst_pos : ∀ (L : List iv), (∀ x ∈ L, okI x) → 0 ≤ cst L
  | [], _ => Int.le_refl _
  | x :: L, h => by
    have h1 := h x List.mem_cons_self
    have h2 := cst_pos L (fun y hy => h y (List.mem_cons_of_mem _ hy))
    have h3 := lgf_mono (a := x.2.1 - x.1) (b := x.2.2) (by have := h1.2.1; omega) (by have := h1.1; have := h1.2.2.1; omega) (by have := h1.2.2.2; omega)
    have e : cst (x :: L) = lgc (x.2.1 - x.1) x.2.2 + cst L := by unfold cst; rw [List.map_cons, List.sum_cons]
    rw [e]
    unfold lgc
    omega
/-- what an account tells of the symbol at place i -/
def okL (xs : List Int) (i : Nat) (a : ac) : Prop := (0 ≤ a.1 ∧ a.1 ≤ 10158080) ∧ (0 ≤ a.2.1 ∧ a.2.1 ≤ 4) ∧ (-1 ≤ a.2.2.1 ∧ a.2.2.1 ≤ 3 ∧ a.2.2.1 ≤ i) ∧ a.2.2.2 = (sy xs i : Int)
theorem crun_acc {ord exc stp lim : Int} {xs : List Int} {t : tbl} (hS : okS ord exc stp lim) (hx : okX xs) (ht : okT t) (k : Nat) : k ≤ xs.length + 1 → ∀ (i : Nat) (h : i < (crun ord exc stp lim xs t k).2.1.length), okL xs i (crun ord exc stp lim xs t k).2.1[i] := by
  induction k with
  | zero => intro _ i h; exact absurd h (Nat.not_lt_zero _)
  | succ k ih =>
    intro hk
    obtain ⟨g1, g2, -⟩ := crun_ok hS hx ht k (by omega)
    have ih := ih (by omega)
    have hr := route_ok (t := (crun ord exc stp lim xs t k).1) (xs := xs) (n := k) g1 hS (sy_lt hx k)
    have hp := pln_ok (g := fun j => cnO (crun ord exc stp lim xs t k).1 (ky xs k j)) (exc := exc) (sy_lt hx k) (fun j d hj => g1.cnO hj) (nOrd ord k) (fun _ => false) [] rfl (by simp)
    have hc1 := cst_pos _ hr.1
    have hc2 := cst_rng hr.1 hr.2
    have hno : (nOrd ord k : Int) ≤ 4 ∧ (nOrd ord k : Int) ≤ k + 1 := by have := hS.1; unfold nOrd; omega
    have hp2 : 1 ≤ (route (crun ord exc stp lim xs t k).1 xs k exc ord (sy xs k)).1.length := hp.2.2.1
    have hp3 : -1 ≤ (route (crun ord exc stp lim xs t k).1 xs k exc ord (sy xs k)).2 := hp.2.2.2.1
    have hp4 : (route (crun ord exc stp lim xs t k).1 xs k exc ord (sy xs k)).2 < nOrd ord k := hp.2.2.2.2
    have hr2 := hr.2
    rw [crun_2]
    generalize (crun ord exc stp lim xs t k).2.1 = A at ih g2 ⊢
    generalize route (crun ord exc stp lim xs t k).1 xs k exc ord (sy xs k) = R at hc1 hc2 hp2 hp3 hp4 hr2 ⊢
    intro i h
    by_cases q : i < A.length
    · rw [List.getElem_append_left q]; exact ih i q
    · have q2 : i = A.length := by rw [List.length_append, List.length_singleton] at h; omega
      subst q2
      rw [List.getElem_append_right (Nat.le_refl _)]
      simp only [Nat.sub_self, List.getElem_singleton]
      refine ⟨?_, ?_, ?_, ?_⟩
      · exact ⟨hc1, hc2.2⟩
      · constructor <;> dsimp only <;> omega
      · refine ⟨?_, ?_, ?_⟩ <;> dsimp only <;> omega
      · dsimp only; rw [g2]
/-- the guess -/
theorem bst_min (p : Nat → Int) : ∀ (n j : Nat), j ≤ n → p (bst p n) ≤ p j ∧ (p j = p (bst p n) → bst p n ≤ j)
  | 0, j, h => by rw [show j = 0 by omega]; exact ⟨Int.le_refl _, fun _ => Nat.le_refl _⟩
  | n + 1, j, h => by
    rw [bst]
    by_cases hp : p (n + 1) < p (bst p n)
    · rw [if_pos hp]
      by_cases e : j = n + 1
      · rw [e]; exact ⟨Int.le_refl _, fun _ => Nat.le_refl _⟩
      · have := bst_min p n j (by omega)
        exact ⟨by omega, fun q => by omega⟩
    · rw [if_neg hp]
      by_cases e : j = n + 1
      · have := bst_le p n
        rw [e]
        exact ⟨by omega, fun q => by omega⟩
      · exact bst_min p n j (by omega)
theorem prc_pos {t : tbl} {xs : List Int} {n s : Nat} {exc ord stp lim : Int} (ht : okT t) (hS : okS ord exc stp lim) (hs : s < 96) : 0 ≤ cst (route t xs n exc ord s).1 ∧ cst (route t xs n exc ord s).1 ≤ 10158080 := by
  have hr := route_ok (t := t) (xs := xs) (n := n) (s := s) ht hS hs
  exact ⟨cst_pos _ hr.1, (cst_rng hr.1 hr.2).2⟩
theorem sm_pt {c d : Nat → Int} : ∀ {n : Nat}, (∀ s, s < n → c s ≤ d s) → sm c n ≤ sm d n
  | 0, _ => Int.le_refl _
  | n + 1, h => by
    have h1 := sm_pt (n := n) (fun s hs => h s (by omega))
    have h2 := h n (by omega)
    rw [sm, sm]
    omega
theorem okC_wt {c : Nat → Int} (h : okC c) : 1 ≤ wt c ∧ wt c ≤ 1000 ∧ ∀ s, s < 96 → 0 ≤ c s ∧ c s ≤ wt c := by
  have h0 : ∀ s, s < 96 → (if 0 < c s then (1 : Int) else 0) ≤ c s := fun s hs => by
    have := h.1 s hs
    split <;> omega
  have h1 : kn c ≤ wt c := by
    unfold kn wt
    generalize (96 : Nat) = n at h0
    exact sm_pt h0
  have h2 := h.2.2
  exact ⟨by omega, h.2.1, fun s hs => ⟨h.1 s hs, sm_le hs h.1⟩⟩
/-- a table that has learnt isn't empty -/
theorem inc1_len (t : tbl) (k : Int) (s : Nat) (stp lim : Int) : 1 ≤ (inc1 t k s stp lim).length := by
  have hr : ∀ (u : tbl) (i : Nat), (rse u i s stp lim).length = u.length := fun u i => by unfold rse; split <;> simp
  unfold inc1
  rcases met_cases t k with ⟨h1, h2, -, h3⟩ | ⟨i, h, h1, h2, -⟩ | ⟨-, h0, h1, h2⟩
  · rw [if_neg (by omega), h1]; omega
  · rw [if_pos (by omega), hr, h1]; omega
  · rw [if_pos (by omega), hr, h1, List.length_append, List.length_singleton]; omega
theorem incr_len (t : tbl) (f : Nat → Int) (s : Nat) (stp lim : Int) (n : Nat) : 1 ≤ (incr t f s stp lim (n + 1)).length := by
  rw [incr]; exact inc1_len _ _ _ _ _
