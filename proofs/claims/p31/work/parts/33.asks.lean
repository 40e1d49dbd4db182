/-! the other calls on the class's object -/
def oCount (a s : Int) (k : kk) : Int × kk := (if (0 ≤ a ∧ a ≤ 3) ∧ 0 ≤ s ∧ s ≤ 95 then (if k.2.2.length < a then -9 else match cnO (sT k.1) (ky k.2.2 k.2.2.length a.toNat) with
  | none => -9
  | some c => c s.toNat) else -1, k)
def oWeight (a : Int) (k : kk) : Int × kk := (if 0 ≤ a ∧ a ≤ 3 then (if k.2.2.length < a then -9 else match cnO (sT k.1) (ky k.2.2 k.2.2.length a.toNat) with
  | none => -9
  | some c => wt c) else -1, k)
def prc (k : kk) (s : Nat) : Int := cst (route (sT k.1) k.2.2 k.2.2.length (sX k.1) (sO k.1) s).1
def oPrice (s : Int) (k : kk) : Int × kk := (if 0 ≤ s ∧ s ≤ 95 then prc k s.toNat else -1, k)
def bst (p : Nat → Int) : Nat → Nat
  | 0 => 0
  | n + 1 => if p (n + 1) < p (bst p n) then n + 1 else bst p n
theorem bst_le (p : Nat → Int) : ∀ n : Nat, bst p n ≤ n
  | 0 => Nat.le_refl _
  | n + 1 => by
    rw [bst]
    have := bst_le p n
    split <;> omega
def oGuess (k : kk) : Int × kk := (bst (prc k) 95, k)
def oAccount (a w : Int) (k : kk) : Int × kk := (if 0 ≤ a ∧ a < (sA k.1).length then (if w = 0 then ((sA k.1).map (fun x => x.1)).getD a.toNat 0 else if w = 1 then ((sA k.1).map (fun x => x.2.1)).getD a.toNat 0 else if w = 2 then ((sA k.1).map (fun x => x.2.2.1)).getD a.toNat 0 else if w = 3 then ((sA k.1).map (fun x => x.2.2.2)).getD a.toNat 0 else -1) else -1, k)
def oCost (k : kk) : Int × kk := (((sA k.1).map (fun x => x.1)).sum, k)
def fp0 (σ : sg) : Int := 31 * (31 * (31 * (31 * (31 * (31 * 67 + sO σ) + sX σ) + sS σ) + sL σ) + ((sT σ).length : Int)) + ((sC σ).length : Int)
def fp1 (σ : sg) : Int := (sC σ).foldl (fun p b => 31 * p + b) (fp0 σ)
def fp2 (σ : sg) : Int := 31 * (31 * (31 * fp1 σ + ((sA σ).length : Int)) + wr ((sA σ).map (fun x => x.1)).sum) + ((sR σ).length : Int)
def fp3 (σ : sg) : Int := (sR σ).foldl (fun p b => 31 * p + b + 32) (fp2 σ)
theorem cst_rng {L : List iv} (h : ∀ x ∈ L, okI x) (hl : L.length ≤ 5) : -10158080 ≤ cst L ∧ cst L ≤ 10158080 := by
  have key : ∀ (L : List iv), (∀ x ∈ L, okI x) → -(2031616 * (L.length : Int)) ≤ cst L ∧ cst L ≤ 2031616 * (L.length : Int) := by
    intro L
    induction L with
    | nil => intro _; exact ⟨by decide, by decide⟩
    | cons x L ih =>
      intro h
      have h1 := ih (fun y hy => h y (List.mem_cons_of_mem _ hy))
      obtain ⟨u1, u2, u3, u4⟩ := h x List.mem_cons_self
      have h2 := lgf_rng (v := x.2.2) (by omega)
      have h3 := lgf_rng (v := x.2.1 - x.1) (by omega)
      have e : cst (x :: L) = lgc (x.2.1 - x.1) x.2.2 + cst L := by unfold cst; rw [List.map_cons, List.sum_cons]
      rw [e, List.length_cons]
      unfold lgc
      push_cast
      omega
  have := key L h
  omega
theorem route_ok {t : tbl} {xs : List Int} {n s : Nat} {exc ord stp lim : Int} (ht : okT t) (hS : okS ord exc stp lim) (hs : s < 96) : (∀ x ∈ (route t xs n exc ord s).1, okI x) ∧ (route t xs n exc ord s).1.length ≤ 5 := by
  have h := pln_ok (g := fun j => cnO t (ky xs n j)) (exc := exc) hs (fun j d hj => ht.cnO hj) (nOrd ord n) (fun _ => false) [] rfl (by simp)
  have hn : nOrd ord n ≤ 4 := by obtain ⟨hS1, -⟩ := hS; unfold nOrd; omega
  have h2 := h.2.1
  rw [List.length_nil] at h2
  exact ⟨h.1, by unfold route; omega⟩
set_option maxHeartbeats 1000000 in
theorem c_lastContext {M : pM} {z c a : Nat} {k : kk} (h : CC M c k) (ha : a ≤ 3) : CR I_X8_lastContext yX8_lastContext [.ref c, vI (a : Int)] M z (some (vI (if k.2.2.length < a then -1 else fnd (sT k.1) (ky k.2.2 k.2.2.length a)))) := by
  obtain ⟨σ, hs, x⟩ := k
  obtain ⟨m_c, hn, hG, hp, hR⟩ := id h
  have m_c : M c = _ := m_c
  obtain ⟨m_n, n1, n2, n3, n4⟩ := id hn
  have fr : Off M M c (c + 131) := Off.rf
  dsimp only at m_c hn hG hp hR m_n n1 n2 n3 n4
  obtain ⟨⟨τ, h1⟩, ⟨hx, hxo⟩, ⟨e, h3⟩, w0, w1, w2, w3, h4⟩ := hR
  have m_tx := hx.obj
  have hxl := hx.len
  refine C.intro (pl := [some (.ref c), some (vI (a : Int))]) pn_X8 rfl (fun h => absurd h (by decide)) rfl (Nat.le_of_ble_eq_true rfl) rfl ?_
  by_cases hl : x.length < a
  · refine g_iload_n dX8_lastContext_0 rfl ?_
    refine g_aload_n dX8_lastContext_1 rfl ?_
    refine z_getf fl_X8_32 dX8_lastContext_2 m_c rfl ?_
    refine z_getf fl_X8_102 dX8_lastContext_5 m_tx rfl ?_
    refine z_icmp_le (tgt := 15) dX8_lastContext_8 (by decide) (by omega) (by omega) (fun c8 => absurd c8 (by omega)) (fun c8 => ?_)
    refine z_iconst dX8_lastContext_11 ?_
    refine g_goto (tgt := 40) dX8_lastContext_12 (by decide) ?_
    exact g_ireturn dX8_lastContext_40 rfl (Nat.le_of_ble_eq_true rfl) (Nat.le_of_ble_eq_true rfl) ⟨rfl, rfl, by rw [if_pos hl]⟩
  · have hky := ky_rng (xs := x) (n := x.length) (j := a) hxo (Nat.le_refl _) (by omega) ha
    refine g_iload_n dX8_lastContext_0 rfl ?_
    refine g_aload_n dX8_lastContext_1 rfl ?_
    refine z_getf fl_X8_32 dX8_lastContext_2 m_c rfl ?_
    refine z_getf fl_X8_102 dX8_lastContext_5 m_tx rfl ?_
    refine z_icmp_le (tgt := 15) dX8_lastContext_8 (by decide) (by omega) (by omega) (fun c8 => ?_) (fun c8 => absurd c8 (by omega))
    refine g_aload_n dX8_lastContext_15 rfl ?_
    refine z_getf fl_X8_12 dX8_lastContext_16 m_c rfl ?_
    refine z_getf fl_X8_85 dX8_lastContext_19 m_n rfl ?_
    refine g_aload_n dX8_lastContext_22 rfl ?_
    refine z_getf fl_X8_32 dX8_lastContext_23 m_c rfl ?_
    refine g_aload_n dX8_lastContext_26 rfl ?_
    refine z_getf fl_X8_32 dX8_lastContext_27 m_c rfl ?_
    refine z_getf fl_X8_102 dX8_lastContext_30 m_tx rfl ?_
    refine g_iload_n dX8_lastContext_33 rfl ?_
    refine z_callSR dX8_lastContext_34 lm_X8_224 lk_X8_contextKey (x_contextKey hx (Nat.le_refl _) (by omega)) rfl rfl (mkRoom rfl rfl) (Nat.le_of_ble_eq_true rfl) (Nat.le_of_ble_eq_true rfl) (Nat.le_of_ble_eq_true rfl) ?_
    refine z_callVR dX8_lastContext_37 lm_X8_228 lk_X4_find (Md_find n1 (by unfold ky at hky; omega)) rfl rfl n1.obj rfl (mkRoom rfl rfl) (Nat.le_of_ble_eq_true rfl) (Nat.le_of_ble_eq_true rfl) (Nat.le_of_ble_eq_true rfl) ?_
    exact g_ireturn dX8_lastContext_40 rfl (Nat.le_of_ble_eq_true rfl) (Nat.le_of_ble_eq_true rfl) ⟨rfl, rfl, by rw [if_neg hl]; rfl⟩
set_option maxHeartbeats 1000000 in
theorem c_count {M : pM} {z c : Nat} {k : kk} {a : Int} {s : Int} (h : CC M c k) (h_a : -2147483648 ≤ a ∧ a < 2147483648) (h_s : -2147483648 ≤ s ∧ s < 2147483648) : CK I_X8_count yX8_count c [vI a, vI s] M z (oCount a s k) := by
  obtain ⟨σ, hs, x⟩ := k
  obtain ⟨m_c, hn, hG, hp, hR⟩ := id h
  have m_c : M c = _ := m_c
  obtain ⟨m_n, n1, n2, n3, n4⟩ := id hn
  have fr : Off M M c (c + 131) := Off.rf
  dsimp only at m_c hn hG hp hR m_n n1 n2 n3 n4
  unfold oCount
  try dsimp only
  refine C.intro (pl := [some (.ref c), some (vI a), some (vI s), none]) pn_X8 rfl (fun h => absurd h (by decide)) rfl (Nat.le_of_ble_eq_true rfl) rfl ?_
  by_cases hc : (0 ≤ a ∧ a ≤ 3) ∧ 0 ≤ s ∧ s ≤ 95
  · rw [if_pos hc]
    by_cases hl : (x.length : Int) < a
    · rw [if_pos hl]
      refine g_iload_n dX8_count_0 rfl ?_
      refine z_if_lt (tgt := 19) dX8_count_1 (by decide) (by omega) (fun c1 => absurd c1 (by omega)) (fun c1 => ?_)
      refine g_iload_n dX8_count_4 rfl ?_
      refine z_iconst dX8_count_5 ?_
      refine z_icmp_gt (tgt := 19) dX8_count_6 (by decide) (by omega) (by omega) (fun c6 => absurd c6 (by omega)) (fun c6 => ?_)
      refine g_iload_n dX8_count_9 rfl ?_
      refine z_if_lt (tgt := 19) dX8_count_10 (by decide) (by omega) (fun c10 => absurd c10 (by omega)) (fun c10 => ?_)
      refine g_iload_n dX8_count_13 rfl ?_
      refine z_bipush dX8_count_14 (by decide +kernel) ?_
      refine z_icmp_lt (tgt := 21) dX8_count_16 (by decide) (by omega) (by omega) (fun c16 => ?_) (fun c16 => absurd c16 (by omega))
      refine g_aload_n dX8_count_21 rfl ?_
      refine g_iload_n dX8_count_22 rfl ?_
      refine G.top (v' := vI ((a.toNat : Nat) : Int)) (by rw [Int.toNat_of_nonneg (by omega)]) ?_
      refine z_callVR dX8_count_23 lm_X8_116 lk_X8_lastContext (show CR I_X8_lastContext yX8_lastContext _ M z (some (vI (-1))) from (c_lastContext (a := a.toNat) h (by omega)).eq (by rw [if_pos (by dsimp only; omega)])) rfl rfl m_c rfl (mkRoom rfl rfl) (Nat.le_of_ble_eq_true rfl) (Nat.le_of_ble_eq_true rfl) (Nat.le_of_ble_eq_true rfl) ?_
      refine g_istore_n dX8_count_26 rfl (Nat.le_of_ble_eq_true rfl) ?_
      refine g_iload_n dX8_count_27 rfl ?_
      refine z_if_ge (tgt := 36) dX8_count_28 (by decide) (by omega) (fun c28 => absurd c28 (by omega)) (fun c28 => ?_)
      refine z_bipush dX8_count_31 (by decide +kernel) ?_
      refine g_goto (tgt := 48) dX8_count_33 (by decide) ?_
      exact g_ireturn dX8_count_48 rfl (Nat.le_of_ble_eq_true rfl) (Nat.le_of_ble_eq_true rfl) ⟨rfl, rfl, h, Off.rf⟩
    · rw [if_neg hl]
      rcases fnd_cases (sT σ) (ky x x.length a.toNat) with ⟨hf, -⟩ | ⟨i, hi, hf, -⟩
      · rw [cnO_no (by omega)]
        refine g_iload_n dX8_count_0 rfl ?_
        refine z_if_lt (tgt := 19) dX8_count_1 (by decide) (by omega) (fun c1 => absurd c1 (by omega)) (fun c1 => ?_)
        refine g_iload_n dX8_count_4 rfl ?_
        refine z_iconst dX8_count_5 ?_
        refine z_icmp_gt (tgt := 19) dX8_count_6 (by decide) (by omega) (by omega) (fun c6 => absurd c6 (by omega)) (fun c6 => ?_)
        refine g_iload_n dX8_count_9 rfl ?_
        refine z_if_lt (tgt := 19) dX8_count_10 (by decide) (by omega) (fun c10 => absurd c10 (by omega)) (fun c10 => ?_)
        refine g_iload_n dX8_count_13 rfl ?_
        refine z_bipush dX8_count_14 (by decide +kernel) ?_
        refine z_icmp_lt (tgt := 21) dX8_count_16 (by decide) (by omega) (by omega) (fun c16 => ?_) (fun c16 => absurd c16 (by omega))
        refine g_aload_n dX8_count_21 rfl ?_
        refine g_iload_n dX8_count_22 rfl ?_
        refine G.top (v' := vI ((a.toNat : Nat) : Int)) (by rw [Int.toNat_of_nonneg (by omega)]) ?_
        refine z_callVR dX8_count_23 lm_X8_116 lk_X8_lastContext (show CR I_X8_lastContext yX8_lastContext _ M z (some (vI (-1))) from (c_lastContext (a := a.toNat) h (by omega)).eq (by rw [if_neg (by dsimp only; omega)]; dsimp only; rw [hf])) rfl rfl m_c rfl (mkRoom rfl rfl) (Nat.le_of_ble_eq_true rfl) (Nat.le_of_ble_eq_true rfl) (Nat.le_of_ble_eq_true rfl) ?_
        refine g_istore_n dX8_count_26 rfl (Nat.le_of_ble_eq_true rfl) ?_
        refine g_iload_n dX8_count_27 rfl ?_
        refine z_if_ge (tgt := 36) dX8_count_28 (by decide) (by omega) (fun c28 => absurd c28 (by omega)) (fun c28 => ?_)
        refine z_bipush dX8_count_31 (by decide +kernel) ?_
        refine g_goto (tgt := 48) dX8_count_33 (by decide) ?_
        exact g_ireturn dX8_count_48 rfl (Nat.le_of_ble_eq_true rfl) (Nat.le_of_ble_eq_true rfl) ⟨rfl, rfl, h, Off.rf⟩
      · rw [cnO_at hf hi]
        have hTl := hG.2.1.1
        refine g_iload_n dX8_count_0 rfl ?_
        refine z_if_lt (tgt := 19) dX8_count_1 (by decide) (by omega) (fun c1 => absurd c1 (by omega)) (fun c1 => ?_)
        refine g_iload_n dX8_count_4 rfl ?_
        refine z_iconst dX8_count_5 ?_
        refine z_icmp_gt (tgt := 19) dX8_count_6 (by decide) (by omega) (by omega) (fun c6 => absurd c6 (by omega)) (fun c6 => ?_)
        refine g_iload_n dX8_count_9 rfl ?_
        refine z_if_lt (tgt := 19) dX8_count_10 (by decide) (by omega) (fun c10 => absurd c10 (by omega)) (fun c10 => ?_)
        refine g_iload_n dX8_count_13 rfl ?_
        refine z_bipush dX8_count_14 (by decide +kernel) ?_
        refine z_icmp_lt (tgt := 21) dX8_count_16 (by decide) (by omega) (by omega) (fun c16 => ?_) (fun c16 => absurd c16 (by omega))
        refine g_aload_n dX8_count_21 rfl ?_
        refine g_iload_n dX8_count_22 rfl ?_
        refine G.top (v' := vI ((a.toNat : Nat) : Int)) (by rw [Int.toNat_of_nonneg (by omega)]) ?_
        refine z_callVR dX8_count_23 lm_X8_116 lk_X8_lastContext (show CR I_X8_lastContext yX8_lastContext _ M z (some (vI ((i : Int)))) from (c_lastContext (a := a.toNat) h (by omega)).eq (by rw [if_neg (by dsimp only; omega)]; dsimp only; rw [hf])) rfl rfl m_c rfl (mkRoom rfl rfl) (Nat.le_of_ble_eq_true rfl) (Nat.le_of_ble_eq_true rfl) (Nat.le_of_ble_eq_true rfl) ?_
        refine g_istore_n dX8_count_26 rfl (Nat.le_of_ble_eq_true rfl) ?_
        refine g_iload_n dX8_count_27 rfl ?_
        refine z_if_ge (tgt := 36) dX8_count_28 (by decide) (by omega) (fun c28 => ?_) (fun c28 => absurd c28 (by omega))
        refine g_aload_n dX8_count_36 rfl ?_
        refine z_getf fl_X8_12 dX8_count_37 m_c rfl ?_
        refine z_getf fl_X8_85 dX8_count_40 m_n rfl ?_
        refine g_iload_n dX8_count_43 rfl ?_
        refine g_iload_n dX8_count_44 rfl ?_
        refine G.top (v' := vI ((s.toNat : Nat) : Int)) (by rw [Int.toNat_of_nonneg (by omega)]) ?_
        refine z_callVR dX8_count_45 lm_X8_119 lk_X4_countIn (Md_countIn (s := s.toNat) n1 hi (by omega)) rfl rfl n1.obj rfl (mkRoom rfl rfl) (Nat.le_of_ble_eq_true rfl) (Nat.le_of_ble_eq_true rfl) (Nat.le_of_ble_eq_true rfl) ?_
        exact g_ireturn dX8_count_48 rfl (Nat.le_of_ble_eq_true rfl) (Nat.le_of_ble_eq_true rfl) ⟨rfl, rfl, h, Off.rf⟩
  · rw [if_neg hc]
    refine g_iload_n dX8_count_0 rfl ?_
    refine z_if_lt (tgt := 19) dX8_count_1 (by decide) (by omega) (fun c1 => ?_) (fun c1 => ?_)
    · refine z_iconst dX8_count_19 ?_
      exact g_ireturn dX8_count_20 rfl (Nat.le_of_ble_eq_true rfl) (Nat.le_of_ble_eq_true rfl) ⟨rfl, rfl, h, Off.rf⟩
    · refine g_iload_n dX8_count_4 rfl ?_
      refine z_iconst dX8_count_5 ?_
      refine z_icmp_gt (tgt := 19) dX8_count_6 (by decide) (by omega) (by omega) (fun c6 => ?_) (fun c6 => ?_)
      · refine z_iconst dX8_count_19 ?_
        exact g_ireturn dX8_count_20 rfl (Nat.le_of_ble_eq_true rfl) (Nat.le_of_ble_eq_true rfl) ⟨rfl, rfl, h, Off.rf⟩
      · refine g_iload_n dX8_count_9 rfl ?_
        refine z_if_lt (tgt := 19) dX8_count_10 (by decide) (by omega) (fun c10 => ?_) (fun c10 => ?_)
        · refine z_iconst dX8_count_19 ?_
          exact g_ireturn dX8_count_20 rfl (Nat.le_of_ble_eq_true rfl) (Nat.le_of_ble_eq_true rfl) ⟨rfl, rfl, h, Off.rf⟩
        · refine g_iload_n dX8_count_13 rfl ?_
          refine z_bipush dX8_count_14 (by decide +kernel) ?_
          refine z_icmp_lt (tgt := 21) dX8_count_16 (by decide) (by omega) (by omega) (fun c16 => ?_) (fun c16 => ?_)
          · exfalso; omega
          · refine z_iconst dX8_count_19 ?_
            exact g_ireturn dX8_count_20 rfl (Nat.le_of_ble_eq_true rfl) (Nat.le_of_ble_eq_true rfl) ⟨rfl, rfl, h, Off.rf⟩
set_option maxHeartbeats 1000000 in
theorem c_weight {M : pM} {z c : Nat} {k : kk} {a : Int} (h : CC M c k) (h_a : -2147483648 ≤ a ∧ a < 2147483648) : CK I_X8_weight yX8_weight c [vI a] M z (oWeight a k) := by
  obtain ⟨σ, hs, x⟩ := k
  obtain ⟨m_c, hn, hG, hp, hR⟩ := id h
  have m_c : M c = _ := m_c
  obtain ⟨m_n, n1, n2, n3, n4⟩ := id hn
  have fr : Off M M c (c + 131) := Off.rf
  dsimp only at m_c hn hG hp hR m_n n1 n2 n3 n4
  unfold oWeight
  try dsimp only
  refine C.intro (pl := [some (.ref c), some (vI a), none]) pn_X8 rfl (fun h => absurd h (by decide)) rfl (Nat.le_of_ble_eq_true rfl) rfl ?_
  by_cases hc : 0 ≤ a ∧ a ≤ 3
  · rw [if_pos hc]
    by_cases hl : (x.length : Int) < a
    · rw [if_pos hl]
      refine g_iload_n dX8_weight_0 rfl ?_
      refine z_if_lt (tgt := 9) dX8_weight_1 (by decide) (by omega) (fun c1 => absurd c1 (by omega)) (fun c1 => ?_)
      refine g_iload_n dX8_weight_4 rfl ?_
      refine z_iconst dX8_weight_5 ?_
      refine z_icmp_le (tgt := 11) dX8_weight_6 (by decide) (by omega) (by omega) (fun c6 => ?_) (fun c6 => absurd c6 (by omega))
      refine g_aload_n dX8_weight_11 rfl ?_
      refine g_iload_n dX8_weight_12 rfl ?_
      refine G.top (v' := vI ((a.toNat : Nat) : Int)) (by rw [Int.toNat_of_nonneg (by omega)]) ?_
      refine z_callVR dX8_weight_13 lm_X8_116 lk_X8_lastContext (show CR I_X8_lastContext yX8_lastContext _ M z (some (vI (-1))) from (c_lastContext (a := a.toNat) h (by omega)).eq (by rw [if_pos (by dsimp only; omega)])) rfl rfl m_c rfl (mkRoom rfl rfl) (Nat.le_of_ble_eq_true rfl) (Nat.le_of_ble_eq_true rfl) (Nat.le_of_ble_eq_true rfl) ?_
      refine g_istore_n dX8_weight_16 rfl (Nat.le_of_ble_eq_true rfl) ?_
      refine g_iload_n dX8_weight_17 rfl ?_
      refine z_if_ge (tgt := 26) dX8_weight_18 (by decide) (by omega) (fun c18 => absurd c18 (by omega)) (fun c18 => ?_)
      refine z_bipush dX8_weight_21 (by decide +kernel) ?_
      refine g_goto (tgt := 37) dX8_weight_23 (by decide) ?_
      exact g_ireturn dX8_weight_37 rfl (Nat.le_of_ble_eq_true rfl) (Nat.le_of_ble_eq_true rfl) ⟨rfl, rfl, h, Off.rf⟩
    · rw [if_neg hl]
      rcases fnd_cases (sT σ) (ky x x.length a.toNat) with ⟨hf, -⟩ | ⟨i, hi, hf, -⟩
      · rw [cnO_no (by omega)]
        refine g_iload_n dX8_weight_0 rfl ?_
        refine z_if_lt (tgt := 9) dX8_weight_1 (by decide) (by omega) (fun c1 => absurd c1 (by omega)) (fun c1 => ?_)
        refine g_iload_n dX8_weight_4 rfl ?_
        refine z_iconst dX8_weight_5 ?_
        refine z_icmp_le (tgt := 11) dX8_weight_6 (by decide) (by omega) (by omega) (fun c6 => ?_) (fun c6 => absurd c6 (by omega))
        refine g_aload_n dX8_weight_11 rfl ?_
        refine g_iload_n dX8_weight_12 rfl ?_
        refine G.top (v' := vI ((a.toNat : Nat) : Int)) (by rw [Int.toNat_of_nonneg (by omega)]) ?_
        refine z_callVR dX8_weight_13 lm_X8_116 lk_X8_lastContext (show CR I_X8_lastContext yX8_lastContext _ M z (some (vI (-1))) from (c_lastContext (a := a.toNat) h (by omega)).eq (by rw [if_neg (by dsimp only; omega)]; dsimp only; rw [hf])) rfl rfl m_c rfl (mkRoom rfl rfl) (Nat.le_of_ble_eq_true rfl) (Nat.le_of_ble_eq_true rfl) (Nat.le_of_ble_eq_true rfl) ?_
        refine g_istore_n dX8_weight_16 rfl (Nat.le_of_ble_eq_true rfl) ?_
        refine g_iload_n dX8_weight_17 rfl ?_
        refine z_if_ge (tgt := 26) dX8_weight_18 (by decide) (by omega) (fun c18 => absurd c18 (by omega)) (fun c18 => ?_)
        refine z_bipush dX8_weight_21 (by decide +kernel) ?_
        refine g_goto (tgt := 37) dX8_weight_23 (by decide) ?_
        exact g_ireturn dX8_weight_37 rfl (Nat.le_of_ble_eq_true rfl) (Nat.le_of_ble_eq_true rfl) ⟨rfl, rfl, h, Off.rf⟩
      · rw [cnO_at hf hi]
        have hTl := hG.2.1.1
        refine g_iload_n dX8_weight_0 rfl ?_
        refine z_if_lt (tgt := 9) dX8_weight_1 (by decide) (by omega) (fun c1 => absurd c1 (by omega)) (fun c1 => ?_)
        refine g_iload_n dX8_weight_4 rfl ?_
        refine z_iconst dX8_weight_5 ?_
        refine z_icmp_le (tgt := 11) dX8_weight_6 (by decide) (by omega) (by omega) (fun c6 => ?_) (fun c6 => absurd c6 (by omega))
        refine g_aload_n dX8_weight_11 rfl ?_
        refine g_iload_n dX8_weight_12 rfl ?_
        refine G.top (v' := vI ((a.toNat : Nat) : Int)) (by rw [Int.toNat_of_nonneg (by omega)]) ?_
        refine z_callVR dX8_weight_13 lm_X8_116 lk_X8_lastContext (show CR I_X8_lastContext yX8_lastContext _ M z (some (vI ((i : Int)))) from (c_lastContext (a := a.toNat) h (by omega)).eq (by rw [if_neg (by dsimp only; omega)]; dsimp only; rw [hf])) rfl rfl m_c rfl (mkRoom rfl rfl) (Nat.le_of_ble_eq_true rfl) (Nat.le_of_ble_eq_true rfl) (Nat.le_of_ble_eq_true rfl) ?_
        refine g_istore_n dX8_weight_16 rfl (Nat.le_of_ble_eq_true rfl) ?_
        refine g_iload_n dX8_weight_17 rfl ?_
        refine z_if_ge (tgt := 26) dX8_weight_18 (by decide) (by omega) (fun c18 => ?_) (fun c18 => absurd c18 (by omega))
        refine g_aload_n dX8_weight_26 rfl ?_
        refine z_getf fl_X8_12 dX8_weight_27 m_c rfl ?_
        refine z_getf fl_X8_85 dX8_weight_30 m_n rfl ?_
        refine g_iload_n dX8_weight_33 rfl ?_
        refine z_callVR dX8_weight_34 lm_X8_122 lk_X4_weightOf (Md_weightOf n1 hi) rfl rfl n1.obj rfl (mkRoom rfl rfl) (Nat.le_of_ble_eq_true rfl) (Nat.le_of_ble_eq_true rfl) (Nat.le_of_ble_eq_true rfl) ?_
        exact g_ireturn dX8_weight_37 rfl (Nat.le_of_ble_eq_true rfl) (Nat.le_of_ble_eq_true rfl) ⟨rfl, rfl, h, Off.rf⟩
  · rw [if_neg hc]
    refine g_iload_n dX8_weight_0 rfl ?_
    refine z_if_lt (tgt := 9) dX8_weight_1 (by decide) (by omega) (fun c1 => ?_) (fun c1 => ?_)
    · refine z_iconst dX8_weight_9 ?_
      exact g_ireturn dX8_weight_10 rfl (Nat.le_of_ble_eq_true rfl) (Nat.le_of_ble_eq_true rfl) ⟨rfl, rfl, h, Off.rf⟩
    · refine g_iload_n dX8_weight_4 rfl ?_
      refine z_iconst dX8_weight_5 ?_
      refine z_icmp_le (tgt := 11) dX8_weight_6 (by decide) (by omega) (by omega) (fun c6 => ?_) (fun c6 => ?_)
      · exfalso; omega
      · refine z_iconst dX8_weight_9 ?_
        exact g_ireturn dX8_weight_10 rfl (Nat.le_of_ble_eq_true rfl) (Nat.le_of_ble_eq_true rfl) ⟨rfl, rfl, h, Off.rf⟩
set_option maxHeartbeats 1000000 in
theorem c_price {M : pM} {z c : Nat} {k : kk} {s : Int} (h : CC M c k) (h_s : -2147483648 ≤ s ∧ s < 2147483648) : CK I_X8_price yX8_price c [vI s] M z (oPrice s k) := by
  obtain ⟨σ, hs, x⟩ := k
  obtain ⟨m_c, hn, hG, hp, hR⟩ := id h
  have m_c : M c = _ := m_c
  obtain ⟨m_n, n1, n2, n3, n4⟩ := id hn
  have fr : Off M M c (c + 131) := Off.rf
  dsimp only at m_c hn hG hp hR m_n n1 n2 n3 n4
  obtain ⟨⟨τ, h1⟩, ⟨hx, hxo⟩, ⟨e, h3⟩, w0, w1, w2, w3, h4⟩ := hR
  have m_tx := hx.obj
  have hxl := hx.len
  unfold oPrice
  try dsimp only
  refine C.intro (pl := [some (.ref c), some (vI s)]) pn_X8 rfl (fun h => absurd h (by decide)) rfl (Nat.le_of_ble_eq_true rfl) rfl ?_
  by_cases hc : 0 ≤ s ∧ s ≤ 95
  · rw [if_pos hc]
    obtain ⟨⟨ex, ha⟩, ⟨L0, lo, hr⟩, he⟩ := h3
    have hro := route_ok (xs := x) (n := x.length) (s := s.toNat) hG.2.1 hG.1 (by omega)
    refine g_iload_n dX8_price_0 rfl ?_
    refine z_if_lt (tgt := 10) dX8_price_1 (by decide) (by omega) (fun c1 => absurd c1 (by omega)) (fun c1 => ?_)
    refine g_iload_n dX8_price_4 rfl ?_
    refine z_bipush dX8_price_5 (by decide +kernel) ?_
    refine z_icmp_lt (tgt := 12) dX8_price_7 (by decide) (by omega) (by omega) (fun c7 => ?_) (fun c7 => absurd c7 (by omega))
    refine g_aload_n dX8_price_12 rfl ?_
    refine g_aload_n dX8_price_13 rfl ?_
    refine z_getf fl_X8_12 dX8_price_14 m_c rfl ?_
    refine g_aload_n dX8_price_17 rfl ?_
    refine z_getf fl_X8_32 dX8_price_18 m_c rfl ?_
    refine g_aload_n dX8_price_21 rfl ?_
    refine z_getf fl_X8_32 dX8_price_22 m_c rfl ?_
    refine z_getf fl_X8_102 dX8_price_25 m_tx rfl ?_
    refine g_iload_n dX8_price_28 rfl ?_
    refine G.top (v' := vI ((s.toNat : Nat) : Int)) (by rw [Int.toNat_of_nonneg (by omega)]) ?_
    refine z_callVV dX8_price_29 lm_X8_125 lk_X8_plan (x_plan (s := s.toNat) m_c m_n n1 hG.2.1 hG.1 hx hxo (Nat.le_refl _) (by omega) ha hr (by omega) (by omega)) rfl rfl m_c rfl (mkRoom rfl rfl) (Nat.le_of_ble_eq_true rfl) (Nat.le_of_ble_eq_true rfl) (Nat.le_of_ble_eq_true rfl) (fun M r hp2 => ?_)
    obtain ⟨rfl, hr, ⟨ex, ha⟩, o1⟩ := hp2
    have m_c := (o1 _ (by omega)).trans m_c
    have hn := hn.off o1 (by omega)
    have hp := hp.off o1 (by omega)
    have h1 := h1.off o1 (by omega)
    have hx := hx.off o1 (by omega)
    have he := he.off o1 (by omega)
    have h4 := (o1 _ (by omega)).trans h4
    have fr := fr.tr (o1.wd (by omega) (by omega))
    refine g_aload_n dX8_price_32 rfl ?_
    refine z_getf fl_X8_46 dX8_price_33 m_c rfl ?_
    refine z_callVR dX8_price_36 lm_X8_129 lk_X5_sumOfCosts (Rt_cost hr (fun y hy => by obtain ⟨u1, u2, u3, u4⟩ := hro.1 y hy; omega)) rfl rfl hr.1 rfl (mkRoom rfl rfl) (Nat.le_of_ble_eq_true rfl) (Nat.le_of_ble_eq_true rfl) (Nat.le_of_ble_eq_true rfl) ?_
    exact g_ireturn dX8_price_39 rfl (Nat.le_of_ble_eq_true rfl) (Nat.le_of_ble_eq_true rfl) ⟨rfl, rfl, ⟨m_c, hn, hG, hp, ⟨τ, h1⟩, ⟨hx, hxo⟩, ⟨e, ⟨⟨_, ha⟩, ⟨_, _, hr⟩, he⟩⟩, w0, w1, w2, w3, h4⟩, fr⟩
  · rw [if_neg hc]
    refine g_iload_n dX8_price_0 rfl ?_
    refine z_if_lt (tgt := 10) dX8_price_1 (by decide) (by omega) (fun c1 => ?_) (fun c1 => ?_)
    · refine z_iconst dX8_price_10 ?_
      exact g_ireturn dX8_price_11 rfl (Nat.le_of_ble_eq_true rfl) (Nat.le_of_ble_eq_true rfl) ⟨rfl, rfl, h, Off.rf⟩
    · refine g_iload_n dX8_price_4 rfl ?_
      refine z_bipush dX8_price_5 (by decide +kernel) ?_
      refine z_icmp_lt (tgt := 12) dX8_price_7 (by decide) (by omega) (by omega) (fun c7 => ?_) (fun c7 => ?_)
      · exfalso; omega
      · refine z_iconst dX8_price_10 ?_
        exact g_ireturn dX8_price_11 rfl (Nat.le_of_ble_eq_true rfl) (Nat.le_of_ble_eq_true rfl) ⟨rfl, rfl, h, Off.rf⟩
set_option maxHeartbeats 1000000 in
theorem c_guess {M : pM} {z c : Nat} {k : kk}  (h : CC M c k)  : CK I_X8_guess yX8_guess c [] M z (oGuess k) := by
  have hpr : ∀ s : Nat, s < 96 → -10158080 ≤ prc k s ∧ prc k s ≤ 10158080 := fun s hs => by
    have hro := route_ok (xs := k.2.2) (n := k.2.2.length) h.2.2.1.2.1 h.2.2.1.1 hs
    exact cst_rng hro.1 hro.2
  refine C.intro (pl := [some (.ref c), none, none, none, none]) pn_X8 rfl (fun h => absurd h (by decide)) rfl (Nat.le_of_ble_eq_true rfl) rfl ?_
  have pri : ∀ {M : pM} (s : Nat), s < 96 → CC M c k → CW I_X8_price yX8_price [.ref c, vI (s : Int)] M z (fun M' r => r = some (vI (prc k s)) ∧ CC M' c k ∧ Off M M' c (c + 131)) := fun {M} s hs h => by
    have := c_price (z := z) (s := (s : Int)) h (by omega)
    unfold CK oPrice at this
    rw [if_pos (by omega), Int.toNat_natCast] at this
    exact this
  have loop : ∀ (j s : Nat) (M1 : pM), s + 1 + j = 96 → CC M1 c k → Off M M1 c (c + 131) → ∀ K : Option Value, G I_X8_guess 0 0 (fun M' z' r => z' = z ∧ r = some (vI (bst (prc k) 95 : Int)) ∧ CC M' c k ∧ Off M M' c (c + 131)) 0 0 10 [some (.ref c), some (vI (bst (prc k) s : Int)), some (vI (prc k (bst (prc k) s))), some (vI ((s : Int) + 1)), K] [] M1 z := by
    intro j
    induction j with
    | zero =>
      intro s M hs h fr K
      have es : s = 95 := by omega
      subst es
      refine g_iload_n dX8_guess_10 rfl ?_
      refine z_bipush dX8_guess_11 (by decide +kernel) ?_
      refine z_icmp_ge (tgt := 40) dX8_guess_13 (by decide) (by omega) (by omega) (fun c13 => ?_) (fun c13 => absurd c13 (by omega))
      refine g_iload_n dX8_guess_40 rfl ?_
      exact g_ireturn dX8_guess_41 rfl (Nat.le_of_ble_eq_true rfl) (Nat.le_of_ble_eq_true rfl) ⟨rfl, rfl, h, fr⟩
    | succ j ih =>
      intro s M hs h fr K
      have h1 := hpr (s + 1) (by omega)
      have hbl := bst_le (prc k) s
      have h2 := hpr (bst (prc k) s) (by omega)
      have ih2 := ih (s + 1)
      have hb : bst (prc k) (s + 1) = if prc k (s + 1) < prc k (bst (prc k) s) then s + 1 else bst (prc k) s := rfl
      refine g_iload_n dX8_guess_10 rfl ?_
      refine z_bipush dX8_guess_11 (by decide +kernel) ?_
      refine z_icmp_ge (tgt := 40) dX8_guess_13 (by decide) (by omega) (by omega) (fun c13 => absurd c13 (by omega)) (fun c13 => ?_)
      refine g_aload_n dX8_guess_16 rfl ?_
      refine g_iload_n dX8_guess_17 rfl ?_
      refine z_callVV dX8_guess_18 lm_X8_132 lk_X8_price (pri (s + 1) (by omega) h) rfl rfl h.1 rfl (mkRoom rfl rfl) (Nat.le_of_ble_eq_true rfl) (Nat.le_of_ble_eq_true rfl) (Nat.le_of_ble_eq_true rfl) (fun M r hp => ?_)
      obtain ⟨rfl, h, o1⟩ := hp
      have fr := fr.tr o1
      refine g_istore dX8_guess_21 (Nat.le_of_ble_eq_true rfl) ?_
      refine g_iload dX8_guess_23 rfl ?_
      refine g_iload_n dX8_guess_25 rfl ?_
      refine z_icmp_ge (tgt := 34) dX8_guess_26 (by decide) (by omega) (by omega) (fun c26 => ?_) (fun c26 => ?_)
      · refine z_iinc dX8_guess_34 rfl (Nat.le_of_ble_eq_true rfl) ?_
        refine g_goto (tgt := 10) dX8_guess_37 (by decide) ?_
        first
        | (rw [if_neg (by omega)] at hb; rw [hb] at ih2; exact ih2 M (by omega) h fr _)
        | (rw [if_pos (by omega)] at hb; rw [hb] at ih2; exact ih2 M (by omega) h fr _)
      · refine g_iload dX8_guess_29 rfl ?_
        refine g_istore_n dX8_guess_31 rfl (Nat.le_of_ble_eq_true rfl) ?_
        refine g_iload_n dX8_guess_32 rfl ?_
        refine g_istore_n dX8_guess_33 rfl (Nat.le_of_ble_eq_true rfl) ?_
        refine z_iinc dX8_guess_34 rfl (Nat.le_of_ble_eq_true rfl) ?_
        refine g_goto (tgt := 10) dX8_guess_37 (by decide) ?_
        first
        | (rw [if_neg (by omega)] at hb; rw [hb] at ih2; exact ih2 M (by omega) h fr _)
        | (rw [if_pos (by omega)] at hb; rw [hb] at ih2; exact ih2 M (by omega) h fr _)
  have fr : Off M M c (c + 131) := Off.rf
  refine z_iconst dX8_guess_0 ?_
  refine g_istore_n dX8_guess_1 rfl (Nat.le_of_ble_eq_true rfl) ?_
  refine g_aload_n dX8_guess_2 rfl ?_
  refine z_iconst dX8_guess_3 ?_
  refine z_callVV dX8_guess_4 lm_X8_132 lk_X8_price (pri (0) (by omega) h) rfl rfl h.1 rfl (mkRoom rfl rfl) (Nat.le_of_ble_eq_true rfl) (Nat.le_of_ble_eq_true rfl) (Nat.le_of_ble_eq_true rfl) (fun M r hp => ?_)
  obtain ⟨rfl, h, o1⟩ := hp
  have fr := fr.tr o1
  refine g_istore_n dX8_guess_7 rfl (Nat.le_of_ble_eq_true rfl) ?_
  refine z_iconst dX8_guess_8 ?_
  refine g_istore_n dX8_guess_9 rfl (Nat.le_of_ble_eq_true rfl) ?_
  exact loop 95 0 M (by omega) h fr _
set_option maxHeartbeats 1000000 in
theorem c_account {M : pM} {z c : Nat} {k : kk} {a : Int} {b : Int} (h : CC M c k) (h_a : -2147483648 ≤ a ∧ a < 2147483648) (h_b : -2147483648 ≤ b ∧ b < 2147483648) : CK I_X8_account yX8_account c [vI a, vI b] M z (oAccount a b k) := by
  obtain ⟨σ, hs, x⟩ := k
  obtain ⟨m_c, hn, hG, hp, hR⟩ := id h
  have m_c : M c = _ := m_c
  obtain ⟨m_n, n1, n2, n3, n4⟩ := id hn
  have fr : Off M M c (c + 131) := Off.rf
  dsimp only at m_c hn hG hp hR m_n n1 n2 n3 n4
  have n3' := n3
  obtain ⟨m_l, l1, l2, l3, l4⟩ := n3
  have hll := n3'.len
  unfold oAccount
  try dsimp only
  refine C.intro (pl := [some (.ref c), some (vI a), some (vI b)]) pn_X8 rfl (fun h => absurd h (by decide)) rfl (Nat.le_of_ble_eq_true rfl) rfl ?_
  by_cases hc : 0 ≤ a ∧ a < (sA σ).length
  · rw [if_pos hc]
    by_cases hb0 : b = 0
    · rw [if_pos hb0]
      refine g_aload_n dX8_account_0 rfl ?_
      refine z_getf fl_X8_12 dX8_account_1 m_c rfl ?_
      refine z_getf fl_X8_152 dX8_account_4 m_n rfl ?_
      refine z_getf fl_X8_187 dX8_account_7 m_l rfl ?_
      refine g_iload_n dX8_account_10 rfl ?_
      refine z_callVR dX8_account_11 lm_X8_166 lk_X6_has (Row_has_t l4 (by rw [List.length_map]; omega)) rfl rfl l4.obj rfl (mkRoom rfl rfl) (Nat.le_of_ble_eq_true rfl) (Nat.le_of_ble_eq_true rfl) (Nat.le_of_ble_eq_true rfl) ?_
      refine z_if_ne (tgt := 19) dX8_account_14 (by decide) (by omega) (fun c14 => ?_) (fun c14 => absurd c14 (by omega))
      refine g_iload_n dX8_account_19 rfl ?_
      refine z_tswIn (j := 0) (tgt := 52) dX8_account_20 (by omega) (by omega) (by decide) rfl (by decide) ?_
      refine g_aload_n dX8_account_52 rfl ?_
      refine z_getf fl_X8_12 dX8_account_53 m_c rfl ?_
      refine z_getf fl_X8_152 dX8_account_56 m_n rfl ?_
      refine z_getf fl_X8_190 dX8_account_59 m_l rfl ?_
      refine g_iload_n dX8_account_62 rfl ?_
      refine G.top (v' := vI ((a.toNat : Nat) : Int)) (by rw [Int.toNat_of_nonneg (by omega)]) ?_
      refine z_callVR dX8_account_63 lm_X8_105 lk_X6_item (Row_item (j := a.toNat) l1 (by omega)) rfl rfl l1.obj rfl (mkRoom rfl rfl) (Nat.le_of_ble_eq_true rfl) (Nat.le_of_ble_eq_true rfl) (Nat.le_of_ble_eq_true rfl) ?_
      exact g_ireturn dX8_account_66 rfl (Nat.le_of_ble_eq_true rfl) (Nat.le_of_ble_eq_true rfl) ⟨rfl, rfl, h, Off.rf⟩
    · rw [if_neg hb0]
      by_cases hb1 : b = 1
      · rw [if_pos hb1]
        refine g_aload_n dX8_account_0 rfl ?_
        refine z_getf fl_X8_12 dX8_account_1 m_c rfl ?_
        refine z_getf fl_X8_152 dX8_account_4 m_n rfl ?_
        refine z_getf fl_X8_187 dX8_account_7 m_l rfl ?_
        refine g_iload_n dX8_account_10 rfl ?_
        refine z_callVR dX8_account_11 lm_X8_166 lk_X6_has (Row_has_t l4 (by rw [List.length_map]; omega)) rfl rfl l4.obj rfl (mkRoom rfl rfl) (Nat.le_of_ble_eq_true rfl) (Nat.le_of_ble_eq_true rfl) (Nat.le_of_ble_eq_true rfl) ?_
        refine z_if_ne (tgt := 19) dX8_account_14 (by decide) (by omega) (fun c14 => ?_) (fun c14 => absurd c14 (by omega))
        refine g_iload_n dX8_account_19 rfl ?_
        refine z_tswIn (j := 1) (tgt := 67) dX8_account_20 (by omega) (by omega) (by decide) rfl (by decide) ?_
        refine g_aload_n dX8_account_67 rfl ?_
        refine z_getf fl_X8_12 dX8_account_68 m_c rfl ?_
        refine z_getf fl_X8_152 dX8_account_71 m_n rfl ?_
        refine z_getf fl_X8_193 dX8_account_74 m_l rfl ?_
        refine g_iload_n dX8_account_77 rfl ?_
        refine G.top (v' := vI ((a.toNat : Nat) : Int)) (by rw [Int.toNat_of_nonneg (by omega)]) ?_
        refine z_callVR dX8_account_78 lm_X8_105 lk_X6_item (Row_item (j := a.toNat) l2 (by omega)) rfl rfl l2.obj rfl (mkRoom rfl rfl) (Nat.le_of_ble_eq_true rfl) (Nat.le_of_ble_eq_true rfl) (Nat.le_of_ble_eq_true rfl) ?_
        exact g_ireturn dX8_account_81 rfl (Nat.le_of_ble_eq_true rfl) (Nat.le_of_ble_eq_true rfl) ⟨rfl, rfl, h, Off.rf⟩
      · rw [if_neg hb1]
        by_cases hb2 : b = 2
        · rw [if_pos hb2]
          refine g_aload_n dX8_account_0 rfl ?_
          refine z_getf fl_X8_12 dX8_account_1 m_c rfl ?_
          refine z_getf fl_X8_152 dX8_account_4 m_n rfl ?_
          refine z_getf fl_X8_187 dX8_account_7 m_l rfl ?_
          refine g_iload_n dX8_account_10 rfl ?_
          refine z_callVR dX8_account_11 lm_X8_166 lk_X6_has (Row_has_t l4 (by rw [List.length_map]; omega)) rfl rfl l4.obj rfl (mkRoom rfl rfl) (Nat.le_of_ble_eq_true rfl) (Nat.le_of_ble_eq_true rfl) (Nat.le_of_ble_eq_true rfl) ?_
          refine z_if_ne (tgt := 19) dX8_account_14 (by decide) (by omega) (fun c14 => ?_) (fun c14 => absurd c14 (by omega))
          refine g_iload_n dX8_account_19 rfl ?_
          refine z_tswIn (j := 2) (tgt := 82) dX8_account_20 (by omega) (by omega) (by decide) rfl (by decide) ?_
          refine g_aload_n dX8_account_82 rfl ?_
          refine z_getf fl_X8_12 dX8_account_83 m_c rfl ?_
          refine z_getf fl_X8_152 dX8_account_86 m_n rfl ?_
          refine z_getf fl_X8_196 dX8_account_89 m_l rfl ?_
          refine g_iload_n dX8_account_92 rfl ?_
          refine G.top (v' := vI ((a.toNat : Nat) : Int)) (by rw [Int.toNat_of_nonneg (by omega)]) ?_
          refine z_callVR dX8_account_93 lm_X8_105 lk_X6_item (Row_item (j := a.toNat) l3 (by omega)) rfl rfl l3.obj rfl (mkRoom rfl rfl) (Nat.le_of_ble_eq_true rfl) (Nat.le_of_ble_eq_true rfl) (Nat.le_of_ble_eq_true rfl) ?_
          exact g_ireturn dX8_account_96 rfl (Nat.le_of_ble_eq_true rfl) (Nat.le_of_ble_eq_true rfl) ⟨rfl, rfl, h, Off.rf⟩
        · rw [if_neg hb2]
          by_cases hb3 : b = 3
          · rw [if_pos hb3]
            refine g_aload_n dX8_account_0 rfl ?_
            refine z_getf fl_X8_12 dX8_account_1 m_c rfl ?_
            refine z_getf fl_X8_152 dX8_account_4 m_n rfl ?_
            refine z_getf fl_X8_187 dX8_account_7 m_l rfl ?_
            refine g_iload_n dX8_account_10 rfl ?_
            refine z_callVR dX8_account_11 lm_X8_166 lk_X6_has (Row_has_t l4 (by rw [List.length_map]; omega)) rfl rfl l4.obj rfl (mkRoom rfl rfl) (Nat.le_of_ble_eq_true rfl) (Nat.le_of_ble_eq_true rfl) (Nat.le_of_ble_eq_true rfl) ?_
            refine z_if_ne (tgt := 19) dX8_account_14 (by decide) (by omega) (fun c14 => ?_) (fun c14 => absurd c14 (by omega))
            refine g_iload_n dX8_account_19 rfl ?_
            refine z_tswIn (j := 3) (tgt := 97) dX8_account_20 (by omega) (by omega) (by decide) rfl (by decide) ?_
            refine g_aload_n dX8_account_97 rfl ?_
            refine z_getf fl_X8_12 dX8_account_98 m_c rfl ?_
            refine z_getf fl_X8_152 dX8_account_101 m_n rfl ?_
            refine z_getf fl_X8_187 dX8_account_104 m_l rfl ?_
            refine g_iload_n dX8_account_107 rfl ?_
            refine G.top (v' := vI ((a.toNat : Nat) : Int)) (by rw [Int.toNat_of_nonneg (by omega)]) ?_
            refine z_callVR dX8_account_108 lm_X8_105 lk_X6_item (Row_item (j := a.toNat) l4 (by omega)) rfl rfl l4.obj rfl (mkRoom rfl rfl) (Nat.le_of_ble_eq_true rfl) (Nat.le_of_ble_eq_true rfl) (Nat.le_of_ble_eq_true rfl) ?_
            exact g_ireturn dX8_account_111 rfl (Nat.le_of_ble_eq_true rfl) (Nat.le_of_ble_eq_true rfl) ⟨rfl, rfl, h, Off.rf⟩
          · rw [if_neg hb3]
            refine g_aload_n dX8_account_0 rfl ?_
            refine z_getf fl_X8_12 dX8_account_1 m_c rfl ?_
            refine z_getf fl_X8_152 dX8_account_4 m_n rfl ?_
            refine z_getf fl_X8_187 dX8_account_7 m_l rfl ?_
            refine g_iload_n dX8_account_10 rfl ?_
            refine z_callVR dX8_account_11 lm_X8_166 lk_X6_has (Row_has_t l4 (by rw [List.length_map]; omega)) rfl rfl l4.obj rfl (mkRoom rfl rfl) (Nat.le_of_ble_eq_true rfl) (Nat.le_of_ble_eq_true rfl) (Nat.le_of_ble_eq_true rfl) ?_
            refine z_if_ne (tgt := 19) dX8_account_14 (by decide) (by omega) (fun c14 => ?_) (fun c14 => absurd c14 (by omega))
            refine g_iload_n dX8_account_19 rfl ?_
            refine z_tswOut (tgt := 112) dX8_account_20 (by omega) (by omega) (by decide) ?_
            refine z_iconst dX8_account_112 ?_
            exact g_ireturn dX8_account_113 rfl (Nat.le_of_ble_eq_true rfl) (Nat.le_of_ble_eq_true rfl) ⟨rfl, rfl, h, Off.rf⟩
  · rw [if_neg hc]
    refine g_aload_n dX8_account_0 rfl ?_
    refine z_getf fl_X8_12 dX8_account_1 m_c rfl ?_
    refine z_getf fl_X8_152 dX8_account_4 m_n rfl ?_
    refine z_getf fl_X8_187 dX8_account_7 m_l rfl ?_
    refine g_iload_n dX8_account_10 rfl ?_
    refine z_callVR dX8_account_11 lm_X8_166 lk_X6_has (Row_has_f l4 (by omega) (by rw [List.length_map]; omega)) rfl rfl l4.obj rfl (mkRoom rfl rfl) (Nat.le_of_ble_eq_true rfl) (Nat.le_of_ble_eq_true rfl) (Nat.le_of_ble_eq_true rfl) ?_
    refine z_if_ne (tgt := 19) dX8_account_14 (by decide) (by omega) (fun c14 => absurd c14 (by omega)) (fun c14 => ?_)
    refine z_iconst dX8_account_17 ?_
    exact g_ireturn dX8_account_18 rfl (Nat.le_of_ble_eq_true rfl) (Nat.le_of_ble_eq_true rfl) ⟨rfl, rfl, h, Off.rf⟩
set_option maxHeartbeats 1000000 in
theorem c_cost {M : pM} {z c : Nat} {k : kk}  (h : CC M c k)  : CK I_X8_cost yX8_cost c [] M z (oCost k) := by
  obtain ⟨σ, hs, x⟩ := k
  obtain ⟨m_c, hn, hG, hp, hR⟩ := id h
  have m_c : M c = _ := m_c
  obtain ⟨m_n, n1, n2, n3, n4⟩ := id hn
  have fr : Off M M c (c + 131) := Off.rf
  dsimp only at m_c hn hG hp hR m_n n1 n2 n3 n4
  have n3' := n3
  obtain ⟨m_l, l1, l2, l3, l4⟩ := n3
  have hll := n3'.len
  have m_f1 := l1.obj
  rw [List.length_map] at m_f1
  unfold oCost
  try dsimp only
  refine C.intro (pl := [some (.ref c), none, none]) pn_X8 rfl (fun h => absurd h (by decide)) rfl (Nat.le_of_ble_eq_true rfl) rfl ?_
  have loop : ∀ (j i : Nat), i + j = (sA σ).length → G I_X8_cost 0 0 (fun M' z' r => z' = z ∧ r = some (vI ((sA σ).map (fun x => x.1)).sum) ∧ CC M' c (σ, hs, x) ∧ Off M M' c (c + 131)) 0 0 4 [some (.ref c), some (vI (((sA σ).map (fun x => x.1)).take i).sum), some (vI (i : Int))] [] M z := by
    intro j
    induction j with
    | zero =>
      intro i hi
      have e : i = (sA σ).length := by omega
      subst e
      refine g_iload_n dX8_cost_4 rfl ?_
      refine g_aload_n dX8_cost_5 rfl ?_
      refine z_getf fl_X8_12 dX8_cost_6 m_c rfl ?_
      refine z_getf fl_X8_152 dX8_cost_9 m_n rfl ?_
      refine z_getf fl_X8_190 dX8_cost_12 m_l rfl ?_
      refine z_getf fl_X8_102 dX8_cost_15 m_f1 rfl ?_
      refine z_icmp_ge (tgt := 44) dX8_cost_18 (by decide) (by omega) (by omega) (fun c18 => ?_) (fun c18 => absurd c18 (by omega))
      refine g_iload_n dX8_cost_44 rfl ?_
      exact g_ireturn dX8_cost_45 rfl (Nat.le_of_ble_eq_true rfl) (Nat.le_of_ble_eq_true rfl) ⟨rfl, by rw [List.take_of_length_le (by rw [List.length_map]; omega)], h, Off.rf⟩
    | succ j ih =>
      intro i hi
      have ih2 := ih (i + 1) (by omega)
      have hi2 : i < ((sA σ).map (fun x => x.1)).length := by rw [List.length_map]; omega
      rw [List.take_succ, List.getElem?_eq_getElem hi2, Option.toList_some, List.sum_append] at ih2
      have eg : ((sA σ).map (fun x => x.1)).getD i 0 = ((sA σ).map (fun x => x.1))[i] := by rw [List.getD_eq_getElem?_getD, List.getElem?_eq_getElem hi2]; rfl
      rw [← eg, List.sum_cons, List.sum_nil, Int.add_zero] at ih2
      refine g_iload_n dX8_cost_4 rfl ?_
      refine g_aload_n dX8_cost_5 rfl ?_
      refine z_getf fl_X8_12 dX8_cost_6 m_c rfl ?_
      refine z_getf fl_X8_152 dX8_cost_9 m_n rfl ?_
      refine z_getf fl_X8_190 dX8_cost_12 m_l rfl ?_
      refine z_getf fl_X8_102 dX8_cost_15 m_f1 rfl ?_
      refine z_icmp_ge (tgt := 44) dX8_cost_18 (by decide) (by omega) (by omega) (fun c18 => absurd c18 (by omega)) (fun c18 => ?_)
      refine g_iload_n dX8_cost_21 rfl ?_
      refine g_aload_n dX8_cost_22 rfl ?_
      refine z_getf fl_X8_12 dX8_cost_23 m_c rfl ?_
      refine z_getf fl_X8_152 dX8_cost_26 m_n rfl ?_
      refine z_getf fl_X8_190 dX8_cost_29 m_l rfl ?_
      refine g_iload_n dX8_cost_32 rfl ?_
      refine z_callVR dX8_cost_33 lm_X8_105 lk_X6_item (Row_item (j := i) l1 (by omega)) rfl rfl l1.obj rfl (mkRoom rfl rfl) (Nat.le_of_ble_eq_true rfl) (Nat.le_of_ble_eq_true rfl) (Nat.le_of_ble_eq_true rfl) ?_
      refine z_iadd dX8_cost_36 ?_
      refine g_istore_n dX8_cost_37 rfl (Nat.le_of_ble_eq_true rfl) ?_
      refine z_iinc dX8_cost_38 rfl (Nat.le_of_ble_eq_true rfl) ?_
      refine g_goto (tgt := 4) dX8_cost_41 (by decide) ?_
      exact ih2
  refine z_iconst dX8_cost_0 ?_
  refine g_istore_n dX8_cost_1 rfl (Nat.le_of_ble_eq_true rfl) ?_
  refine z_iconst dX8_cost_2 ?_
  refine g_istore_n dX8_cost_3 rfl (Nat.le_of_ble_eq_true rfl) ?_
  exact loop (sA σ).length 0 (by omega)
set_option maxHeartbeats 1000000 in
theorem c_undo {M : pM} {z c : Nat} {k : kk}  (h : CC M c k)  : CK I_X8_undo yX8_undo c [] M z (oUndo k) := by
  obtain ⟨σ, hs, x⟩ := k
  obtain ⟨m_c, hn, hG, hp, hR⟩ := id h
  have m_c : M c = _ := m_c
  obtain ⟨m_n, n1, n2, n3, n4⟩ := id hn
  have fr : Off M M c (c + 131) := Off.rf
  dsimp only at m_c hn hG hp hR m_n n1 n2 n3 n4
  have hl4 : hs.length ≤ 4 := by obtain ⟨f, pi, -, -, -, -, h6, -⟩ := hp; exact h6
  have hp0 := hp
  obtain ⟨f, pi, m_pa, h2, h3, h5, h6, h7⟩ := hp
  unfold oUndo
  try dsimp only
  refine C.intro (pl := [some (.ref c), none]) pn_X8 rfl (fun h => absurd h (by decide)) rfl (Nat.le_of_ble_eq_true rfl) rfl ?_
  by_cases h0 : hs.length = 0
  · have e0 : hs = [] := List.eq_nil_of_length_eq_zero h0
    subst e0
    refine g_aload_n dX8_undo_0 rfl ?_
    refine z_getf fl_X8_23 dX8_undo_1 m_c rfl ?_
    refine z_iconst dX8_undo_4 ?_
    refine z_icmp_lt (tgt := 20) dX8_undo_5 (by decide) (by omega) (by omega) (fun c5 => ?_) (fun c5 => absurd c5 (by omega))
    refine z_bipush dX8_undo_20 (by decide +kernel) ?_
    exact g_ireturn dX8_undo_22 rfl (Nat.le_of_ble_eq_true rfl) (Nat.le_of_ble_eq_true rfl) ⟨rfl, rfl, h, Off.rf⟩
  · obtain ⟨ff, fq⟩ := h2 (hs.length - 1) (by omega)
    obtain ⟨s0, g0⟩ := h7 (hs.length - 1) (by omega)
    have m_p := s0.1
    have eg : hs.getLast? = some hs[hs.length - 1] := by rw [List.getLast?_eq_getElem?, List.getElem?_eq_getElem (by omega)]
    rw [eg]
    try dsimp only
    refine g_aload_n dX8_undo_0 rfl ?_
    refine z_getf fl_X8_23 dX8_undo_1 m_c rfl ?_
    refine z_iconst dX8_undo_4 ?_
    refine z_icmp_lt (tgt := 20) dX8_undo_5 (by decide) (by omega) (by omega) (fun c5 => absurd c5 (by omega)) (fun c5 => ?_)
    refine g_aload_n dX8_undo_8 rfl ?_
    refine z_getf fl_X8_23 dX8_undo_9 m_c rfl ?_
    refine g_aload_n dX8_undo_12 rfl ?_
    refine z_getf fl_X8_19 dX8_undo_13 m_c rfl ?_
    refine z_alenQ dX8_undo_16 m_pa ?_
    refine z_icmp_le (tgt := 23) dX8_undo_17 (by decide) (by omega) (by omega) (fun c17 => ?_) (fun c17 => absurd c17 (by omega))
    refine g_aload_n dX8_undo_23 rfl ?_
    refine z_getf fl_X8_19 dX8_undo_24 m_c rfl ?_
    refine g_aload_n dX8_undo_27 rfl ?_
    refine z_getf fl_X8_23 dX8_undo_28 m_c rfl ?_
    refine z_iconst dX8_undo_31 ?_
    refine z_isub dX8_undo_32 ?_
    refine z_aaload (j := hs.length - 1) dX8_undo_33 m_pa (by omega) (by omega) (by omega) ff ?_
    refine g_astore_n dX8_undo_34 rfl (Nat.le_of_ble_eq_true rfl) ?_
    refine g_aload_n dX8_undo_35 rfl ?_
    refine g_ifnonnull (tgt := 42) dX8_undo_36 (by decide) ?_
    refine g_aload_n dX8_undo_42 rfl ?_
    refine z_getf fl_X8_12 dX8_undo_43 m_c rfl ?_
    refine g_aload_n dX8_undo_46 rfl ?_
    refine z_callVV dX8_undo_47 lm_X8_203 lk_X7_take (Stt_take hn s0 g0.1.2.1 (by omega)) rfl rfl hn.1 rfl (mkRoom rfl rfl) (Nat.le_of_ble_eq_true rfl) (Nat.le_of_ble_eq_true rfl) (Nat.le_of_ble_eq_true rfl) (fun M r hp2 => ?_)
    obtain ⟨rfl, hn, o1⟩ := hp2
    have m_c := (o1 _ (by omega)).trans m_c
    have hp0 := hp0.off o1 (by omega)
    have hR := hR.off o1 (by omega)
    have fr := fr.tr (o1.wd (by omega) (by omega))
    refine g_aload_n dX8_undo_50 rfl ?_
    refine g_dup dX8_undo_51 rfl ?_
    refine z_getf fl_X8_23 dX8_undo_52 m_c rfl ?_
    refine z_iconst dX8_undo_55 ?_
    refine z_isub dX8_undo_56 ?_
    refine z_putf fl_X8_23 dX8_undo_57 m_c rfl (Nat.le_of_ble_eq_true rfl) rfl rfl (fun M m_c o => ?_)
    have o1 : Off _ M c (c + 1) := fun x hx => o x (by omega)
    have fr := fr.tr (o1.wd (by omega) (by omega))
    refine g_aload_n dX8_undo_60 rfl ?_
    refine z_getf fl_X8_23 dX8_undo_61 m_c rfl ?_
    refine g_ireturn dX8_undo_64 rfl (Nat.le_of_ble_eq_true rfl) (Nat.le_of_ble_eq_true rfl) ?_
    have ed : ((hs.dropLast).length : Int) = (hs.length : Int) - 1 := by rw [List.length_dropLast]; omega
    have eh : ((hs.length - 1 : Nat) : Int) = (hs.length : Int) - 1 := by omega
    refine ⟨rfl, by rw [eh], ⟨?_, Stt.off hn o1 (by omega), g0, ?_, hR.off o1 (by omega)⟩, fr⟩
    · unfold Cc
      dsimp only
      rw [ed]
      exact m_c
    · have hp1 := hp0.off o1 (by omega)
      obtain ⟨f, pi, u1, u2, u3, u5, u6, u7⟩ := hp1
      refine ⟨f, pi, u1, u2, u3, u5, by rw [List.length_dropLast]; omega, fun i hi => ?_⟩
      rw [List.length_dropLast] at hi
      dsimp only
      rw [List.getElem_dropLast]
      exact u7 i (by omega)
