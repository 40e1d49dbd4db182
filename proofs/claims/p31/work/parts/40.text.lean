/-! a text that was coded is decoded; how long its code is -/
theorem ky_take (xs : List Int) (k j : Nat) : ky (xs.take k) k j = ky xs k j := by unfold ky cx; rw [List.take_take, Nat.min_self]
theorem crun_1 {ord exc stp lim : Int} {xs : List Int} {t : tbl} (k : Nat) : (crun ord exc stp lim xs t (k + 1)).1 = incr (crun ord exc stp lim xs t k).1 (ky xs k) (sy xs k) stp lim (nOrd ord k) := rfl
theorem crun_2 {ord exc stp lim : Int} {xs : List Int} {t : tbl} (k : Nat) : (crun ord exc stp lim xs t (k + 1)).2.1 = (crun ord exc stp lim xs t k).2.1 ++ [(cst (route (crun ord exc stp lim xs t k).1 xs k exc ord (sy xs k)).1, ((route (crun ord exc stp lim xs t k).1 xs k exc ord (sy xs k)).1.length : Int) - 1, (route (crun ord exc stp lim xs t k).1 xs k exc ord (sy xs k)).2, (sy xs k : Int))] := rfl
theorem crun_3 {ord exc stp lim : Int} {xs : List Int} {t : tbl} (k : Nat) : (crun ord exc stp lim xs t (k + 1)).2.2 = ecs (crun ord exc stp lim xs t k).2.2 (route (crun ord exc stp lim xs t k).1 xs k exc ord (sy xs k)).1 := rfl
theorem route_tot {t : tbl} {xs : List Int} {n s : Nat} {exc ord : Int} (ht : okT t) : ∀ x ∈ (route t xs n exc ord s).1, x.2.2 ≤ 1096 := pln_tot (fun j d hj => ht.cnO hj) _ _ _ (by simp)
theorem crun_more {ord exc stp lim : Int} {xs : List Int} {t : tbl} (hS : okS ord exc stp lim) (hx : okX xs) (ht : okT t) (k : Nat) : k ≤ xs.length + 1 → cI (crun ord exc stp lim xs t k).2.2.1 (crun ord exc stp lim xs t k).2.2.2.1 (crun ord exc stp lim xs t k).2.2.2.2.1 ∧ (crun ord exc stp lim xs t k).2.2.2.2.1.length ≤ 10 * k := by
  induction k with
  | zero =>
    intro _
    refine ⟨?_, Nat.le_refl _⟩
    show (0 : Int) * 4294967296 + 0 + 4294967296 ≤ 256 ^ 0 * 4294967296
    rw [Int.pow_zero]
    omega
  | succ k ih =>
    intro hk
    obtain ⟨h1, h2⟩ := ih (by omega)
    obtain ⟨g1, -, g3⟩ := crun_ok hS hx ht k (by omega)
    have hr := route_ok (t := (crun ord exc stp lim xs t k).1) (xs := xs) (n := k) g1 hS (sy_lt hx k)
    have hq := route_tot (t := (crun ord exc stp lim xs t k).1) (xs := xs) (n := k) (s := sy xs k) (exc := exc) (ord := ord) g1
    rw [crun_3]
    generalize (route (crun ord exc stp lim xs t k).1 xs k exc ord (sy xs k)).1 = R at hr hq ⊢
    refine ⟨cI_ecs R g3 hr.1 h1, ?_⟩
    have := ecs_len R g3 (fun x hx => ⟨hr.1 x hx, hq x hx⟩)
    omega
theorem efin_len {e : es} (hb : okB e.2.2.1) : (efin e).2.2.1.length ≤ e.2.2.1.length + 4 := by
  obtain ⟨low, range, out, lng⟩ := e
  dsimp only at hb
  have hcl : (cry out).1.length = out.length := (cryL_ok out.length out 0 hb).2.1
  unfold efin
  simp only
  refine Nat.le_trans (strip_len _) ?_
  rw [List.length_append, byt_len]
  split
  · dsimp only; rw [hcl]; omega
  · dsimp only; omega
theorem cend_len {ord exc stp lim : Int} {xs : List Int} {t : tbl} (hS : okS ord exc stp lim) (hx : okX xs) (ht : okT t) : (cend ord exc stp lim xs t).2.2.1.length ≤ 10 * xs.length + 18 := by
  obtain ⟨-, h2⟩ := crun_more hS hx ht (xs.length + 1) (Nat.le_refl _)
  obtain ⟨-, -, g3⟩ := crun_ok hS hx ht (xs.length + 1) (Nat.le_refl _)
  unfold cend
  generalize (crun ord exc stp lim xs t (xs.length + 1)).2.2 = e at h2 g3 ⊢
  have h3 := okN_eiv g3 (okI_chk (xs := xs))
  have h4 := eiv_len g3 (okI_chk (xs := xs))
  have h5 := efin_len h3.2.2.1
  have h6 : ib (chk xs, chk xs + 1, 65536) = 4 := rfl
  omega
/-- from the same model, the code of a text is decoded to the text -/
theorem trip {ord exc stp lim : Int} {xs : List Int} {t : tbl} (hS : okS ord exc stp lim) (hx : okX xs) (hl : xs.length ≤ 200) (ht : okT t) : drun ord exc stp lim (cend ord exc stp lim xs t).2.2.1 201 t [] (dbeg (cend ord exc stp lim xs t).2.2.1) = (0, (crun ord exc stp lim xs t xs.length).1, xs) := by
  have hb := (cend_ok (exc := exc) hS hx hl ht).1
  have hN := fun k (hk : k ≤ xs.length + 1) => (crun_ok hS hx ht k hk).2.2
  have hT := fun k (hk : k ≤ xs.length + 1) => (crun_ok hS hx ht k hk).1
  have hC := fun k (hk : k ≤ xs.length + 1) => (crun_more hS hx ht k hk).1
  have hfin : inE (cend ord exc stp lim xs t).2.2.1 (eiv (crun ord exc stp lim xs t (xs.length + 1)).2.2 (chk xs, chk xs + 1, 65536)) := inE_fin (okN_eiv (hN _ (Nat.le_refl _)) okI_chk) (cI_eiv (hN _ (Nat.le_refl _)) okI_chk (hC _ (Nat.le_refl _)))
  generalize (cend ord exc stp lim xs t).2.2.1 = cs at hb hfin ⊢
  obtain ⟨hl0, ⟨hn1, hn2⟩, -⟩ := inE_eiv hb (hN _ (Nat.le_refl _)) okI_chk (hC _ (Nat.le_refl _)) hfin
  dsimp only at hn1 hn2
  have hstep : ∀ k, k ≤ xs.length → inE cs (crun ord exc stp lim xs t (k + 1)).2.2 → inE cs (crun ord exc stp lim xs t k).2.2 ∧ rd (crun ord exc stp lim xs t k).1 (xs.take k) k exc ord cs (dE cs (crun ord exc stp lim xs t k).2.2) = ((sy xs k : Int), dE cs (crun ord exc stp lim xs t (k + 1)).2.2) := fun k hk h => by
    have e : (fun j => cnO (crun ord exc stp lim xs t k).1 (ky (xs.take k) k j)) = (fun j => cnO (crun ord exc stp lim xs t k).1 (ky xs k j)) := funext (fun j => by rw [ky_take])
    unfold rd
    rw [e]
    rw [crun_3] at h ⊢
    exact rdp_pln hb (sy_lt hx k) (fun j d hj => (hT k (by omega)).cnO hj) (nOrd ord k) (fun _ => false) _ _ (hN k (by omega)) (hC k (by omega)) rfl h
  have hall : ∀ u, u ≤ xs.length + 1 → inE cs (crun ord exc stp lim xs t (xs.length + 1 - u)).2.2 := by
    intro u
    induction u with
    | zero => intro _; exact hl0
    | succ u ih =>
      intro hu
      have h1 := ih (by omega)
      rw [show xs.length + 1 - u = (xs.length + 1 - (u + 1)) + 1 by omega] at h1
      exact (hstep _ (by omega) h1).1
  have hin : ∀ k, k ≤ xs.length + 1 → inE cs (crun ord exc stp lim xs t k).2.2 := fun k hk => by
    have := hall (xs.length + 1 - k) (by omega)
    rw [show xs.length + 1 - (xs.length + 1 - k) = k by omega] at this
    exact this
  have main : ∀ u k, k + u = xs.length → drun ord exc stp lim cs (201 - k) (crun ord exc stp lim xs t k).1 (xs.take k) (dE cs (crun ord exc stp lim xs t k).2.2) = (0, (crun ord exc stp lim xs t xs.length).1, xs) := by
    intro u
    induction u with
    | zero =>
      intro k hk
      have hk' : k = xs.length := by omega
      subst hk'
      have hr := (hstep xs.length (Nat.le_refl _) hl0).2
      rw [List.take_length, sy_end] at hr
      rw [List.take_length, show 201 - xs.length = (200 - xs.length) + 1 by omega, drun, hr]
      dsimp only
      rw [if_neg (by decide), if_pos (show ((95 : Nat) : Int) = 95 from rfl), if_pos (by omega)]
    | succ u ih =>
      intro k hk
      have hr := (hstep k (by omega) (hin (k + 1) (by omega))).2
      have hlen : (xs.take k).length = k := by rw [List.length_take]; omega
      have hsy := sy_in hx (k := k) (by omega)
      have hg := hx.get k
      rw [show 201 - k = (201 - (k + 1)) + 1 by omega, drun, hlen, hr]
      dsimp only
      rw [if_neg (by omega), if_neg (by omega), Int.toNat_natCast]
      have e1 : (fun j => ky (xs.take k) k j) = ky xs k := funext (fun j => ky_take xs k j)
      have e2 : xs.take k ++ [((sy xs k : Nat) : Int)] = xs.take (k + 1) := by
        rw [hsy, List.take_add_one, List.getD_eq_getElem?_getD, List.getElem?_eq_getElem (by omega)]
        rfl
      rw [show ky (xs.take k) k = ky xs k from e1, e2]
      exact ih (k + 1) (by omega)
  have := main xs.length 0 (by omega)
  rw [dbeg_dE hb]
  exact this
