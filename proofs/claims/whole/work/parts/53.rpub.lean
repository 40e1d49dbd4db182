/-! the reference's object as a value; its calls -/
def RM (M : pM) (d : Nat) (k : kk) : Prop := ∃ (g gp : Nat → Int) (e : es) (co ec cd wr tc mo tk fm : Int) (ex : Nat → Bool), M d = some (ro d (k.2.1.length : Int) (k.2.2.length : Int) e.1 e.2.1 (e.2.2.1.length : Int) e.2.2.2 co ec cd wr tc mo tk fm) ∧ M (d + 1) = some (arI 25700 g) ∧ VP g k.1 ∧ okG k.1 ∧ (∃ ga, M (d + 2) = some (arI 25700 ga)) ∧ M (d + 3) = some (arI 102800 gp) ∧ HP gp k.2.1 ∧ Tx M (d + 4) 200 k.2.2 ∧ okX k.2.2 ∧ Ma M d e.2.2.1 ∧ Go M d ex ∧ (∃ gt, M (d + 7) = some (arI 804 gt)) ∧ ∃ gf, M (d + 8) = some (arI 201 gf)
theorem RM.off {M M' : pM} {d lo hi : Nat} {k : kk} (h : RM M d k) (ho : Off M M' lo hi) (hd : d + 9 ≤ lo ∨ hi ≤ d) : RM M' d k := by
  obtain ⟨g, gp, e, co, ec, cd, wr, tc, mo, tk, fm, ex, m_d, m_v, hf, hG, ⟨ga, m_as⟩, m_pa, hh, h, hx, hm, hg, ⟨gt, m_to⟩, ⟨gf, m_fo⟩⟩ := h
  exact ⟨g, gp, e, co, ec, cd, wr, tc, mo, tk, fm, ex, (ho _ (by omega)).trans m_d, (ho _ (by omega)).trans m_v, hf, hG, ⟨ga, (ho _ (by omega)).trans m_as⟩, (ho _ (by omega)).trans m_pa, hh, h.by_ (ho _ (by omega)), hx, hm.by_ (ho _ (by omega)), hg.by_ (ho _ (by omega)), ⟨gt, (ho _ (by omega)).trans m_to⟩, ⟨gf, (ho _ (by omega)).trans m_fo⟩⟩
def RK (I : MI) (y : MethodName) (d : Nat) (args : List Value) (M : pM) (z : Nat) (res : Int × kk) : Prop := CW I y (.ref d :: args) M z (fun M' r => r = some (vI res.1) ∧ RM M' d res.2 ∧ Off M M' d (d + 9))
theorem VP.mk_ {g g' : Nat → Int} {σ τ : sg} (hf : VP g σ) (h0 : g' 0 = sO τ ∧ g' 1 = sX τ ∧ g' 2 = sS τ ∧ g' 3 = sL τ) (hv : VM g' (sT τ)) (e : ∀ x, (4 < x ∧ x < 10) ∨ (24260 ≤ x ∧ x < 25700) → g' x = g x) (ht : (sC τ, sA τ, sG τ, sR τ) = (sC σ, sA σ, sG σ, sR σ)) : VP g' τ := by
  have h := hf.2.2.by_ e
  obtain ⟨t1, t2⟩ := Prod.mk.inj ht
  obtain ⟨t2, t3⟩ := Prod.mk.inj t2
  obtain ⟨t3, t4⟩ := Prod.mk.inj t3
  refine ⟨h0, hv, ?_⟩
  rw [t1, t2, t3, t4]
  exact h
set_option maxHeartbeats 1000000 in
theorem k_contexts {M0 : pM} {z d : Nat} {k : kk}  (hR : RM M0 d k)  : RK I_X9_contexts yX9_contexts d [] M0 z (oContexts k) := by
  obtain ⟨σ, hs, x⟩ := k
  obtain ⟨g, gp, e, co, ec, cd, wr, tc, mo, tk, fm, ex, m_d, m_v, hf, hG, ⟨ga, m_as⟩, m_pa, hh, h, hx, hm, hg, ⟨gt, m_to⟩, ⟨gf, m_fo⟩⟩ := id hR
  try dsimp only at m_d hf hG hh h hx
  obtain ⟨⟨f0, f1, f2, f3⟩, hv, hvr⟩ := id hf
  obtain ⟨⟨r5, r6, r7, r8, r9⟩, ⟨l1, l2, l3⟩, hcb, hab, hrb⟩ := id hvr
  have hS : okS (g 0) (g 1) (g 2) (g 3) := by rw [f0, f1, f2, f3]; exact hG.1
  have hxl := h.len
  have hl4 := hh.1
  have fr : Off M0 M0 d (d + 9) := Off.rf
  refine C.intro (pl := [some (.ref d)]) pn_X9 rfl (fun h => absurd h (by decide)) rfl (Nat.le_of_ble_eq_true rfl) rfl ?_
  refine g_aload_n dX9_contexts_0 rfl ?_
  refine z_getf fl_X9_7 dX9_contexts_1 m_d rfl ?_
  refine z_iconst dX9_contexts_4 ?_
  refine z_iaload (j := 4) dX9_contexts_5 m_v rfl (by omega) (by omega) ?_
  exact g_ireturn dX9_contexts_6 rfl (Nat.le_of_ble_eq_true rfl) (Nat.le_of_ble_eq_true rfl) ⟨rfl, by rw [hv.1]; rfl, hR, fr⟩
set_option maxHeartbeats 1000000 in
theorem k_bytes {M0 : pM} {z d : Nat} {k : kk}  (hR : RM M0 d k)  : RK I_X9_bytes yX9_bytes d [] M0 z (oBytes k) := by
  obtain ⟨σ, hs, x⟩ := k
  obtain ⟨g, gp, e, co, ec, cd, wr, tc, mo, tk, fm, ex, m_d, m_v, hf, hG, ⟨ga, m_as⟩, m_pa, hh, h, hx, hm, hg, ⟨gt, m_to⟩, ⟨gf, m_fo⟩⟩ := id hR
  try dsimp only at m_d hf hG hh h hx
  obtain ⟨⟨f0, f1, f2, f3⟩, hv, hvr⟩ := id hf
  obtain ⟨⟨r5, r6, r7, r8, r9⟩, ⟨l1, l2, l3⟩, hcb, hab, hrb⟩ := id hvr
  have hS : okS (g 0) (g 1) (g 2) (g 3) := by rw [f0, f1, f2, f3]; exact hG.1
  have hxl := h.len
  have hl4 := hh.1
  have fr : Off M0 M0 d (d + 9) := Off.rf
  refine C.intro (pl := [some (.ref d)]) pn_X9 rfl (fun h => absurd h (by decide)) rfl (Nat.le_of_ble_eq_true rfl) rfl ?_
  refine g_aload_n dX9_bytes_0 rfl ?_
  refine z_getf fl_X9_7 dX9_bytes_1 m_d rfl ?_
  refine z_iconst dX9_bytes_4 ?_
  refine z_iaload (j := 5) dX9_bytes_5 m_v rfl (by omega) (by omega) ?_
  exact g_ireturn dX9_bytes_6 rfl (Nat.le_of_ble_eq_true rfl) (Nat.le_of_ble_eq_true rfl) ⟨rfl, by rw [r5]; rfl, hR, fr⟩
set_option maxHeartbeats 1000000 in
theorem k_longestCarry {M0 : pM} {z d : Nat} {k : kk}  (hR : RM M0 d k)  : RK I_X9_longestCarry yX9_longestCarry d [] M0 z (oLongest k) := by
  obtain ⟨σ, hs, x⟩ := k
  obtain ⟨g, gp, e, co, ec, cd, wr, tc, mo, tk, fm, ex, m_d, m_v, hf, hG, ⟨ga, m_as⟩, m_pa, hh, h, hx, hm, hg, ⟨gt, m_to⟩, ⟨gf, m_fo⟩⟩ := id hR
  try dsimp only at m_d hf hG hh h hx
  obtain ⟨⟨f0, f1, f2, f3⟩, hv, hvr⟩ := id hf
  obtain ⟨⟨r5, r6, r7, r8, r9⟩, ⟨l1, l2, l3⟩, hcb, hab, hrb⟩ := id hvr
  have hS : okS (g 0) (g 1) (g 2) (g 3) := by rw [f0, f1, f2, f3]; exact hG.1
  have hxl := h.len
  have hl4 := hh.1
  have fr : Off M0 M0 d (d + 9) := Off.rf
  refine C.intro (pl := [some (.ref d)]) pn_X9 rfl (fun h => absurd h (by decide)) rfl (Nat.le_of_ble_eq_true rfl) rfl ?_
  refine g_aload_n dX9_longestCarry_0 rfl ?_
  refine z_getf fl_X9_7 dX9_longestCarry_1 m_d rfl ?_
  refine z_bipush dX9_longestCarry_4 (by decide +kernel) ?_
  refine z_iaload (j := 6) dX9_longestCarry_6 m_v rfl (by omega) (by omega) ?_
  exact g_ireturn dX9_longestCarry_7 rfl (Nat.le_of_ble_eq_true rfl) (Nat.le_of_ble_eq_true rfl) ⟨rfl, by rw [r6]; rfl, hR, fr⟩
set_option maxHeartbeats 1000000 in
theorem k_coded {M0 : pM} {z d : Nat} {k : kk}  (hR : RM M0 d k)  : RK I_X9_coded yX9_coded d [] M0 z (oCoded k) := by
  obtain ⟨σ, hs, x⟩ := k
  obtain ⟨g, gp, e, co, ec, cd, wr, tc, mo, tk, fm, ex, m_d, m_v, hf, hG, ⟨ga, m_as⟩, m_pa, hh, h, hx, hm, hg, ⟨gt, m_to⟩, ⟨gf, m_fo⟩⟩ := id hR
  try dsimp only at m_d hf hG hh h hx
  obtain ⟨⟨f0, f1, f2, f3⟩, hv, hvr⟩ := id hf
  obtain ⟨⟨r5, r6, r7, r8, r9⟩, ⟨l1, l2, l3⟩, hcb, hab, hrb⟩ := id hvr
  have hS : okS (g 0) (g 1) (g 2) (g 3) := by rw [f0, f1, f2, f3]; exact hG.1
  have hxl := h.len
  have hl4 := hh.1
  have fr : Off M0 M0 d (d + 9) := Off.rf
  refine C.intro (pl := [some (.ref d)]) pn_X9 rfl (fun h => absurd h (by decide)) rfl (Nat.le_of_ble_eq_true rfl) rfl ?_
  refine g_aload_n dX9_coded_0 rfl ?_
  refine z_getf fl_X9_7 dX9_coded_1 m_d rfl ?_
  refine z_bipush dX9_coded_4 (by decide +kernel) ?_
  refine z_iaload (j := 7) dX9_coded_6 m_v rfl (by omega) (by omega) ?_
  exact g_ireturn dX9_coded_7 rfl (Nat.le_of_ble_eq_true rfl) (Nat.le_of_ble_eq_true rfl) ⟨rfl, by rw [r7]; rfl, hR, fr⟩
set_option maxHeartbeats 1000000 in
theorem k_cost {M0 : pM} {z d : Nat} {k : kk}  (hR : RM M0 d k)  : RK I_X9_cost yX9_cost d [] M0 z (oCost k) := by
  obtain ⟨σ, hs, x⟩ := k
  obtain ⟨g, gp, e, co, ec, cd, wr, tc, mo, tk, fm, ex, m_d, m_v, hf, hG, ⟨ga, m_as⟩, m_pa, hh, h, hx, hm, hg, ⟨gt, m_to⟩, ⟨gf, m_fo⟩⟩ := id hR
  try dsimp only at m_d hf hG hh h hx
  obtain ⟨⟨f0, f1, f2, f3⟩, hv, hvr⟩ := id hf
  obtain ⟨⟨r5, r6, r7, r8, r9⟩, ⟨l1, l2, l3⟩, hcb, hab, hrb⟩ := id hvr
  have hS : okS (g 0) (g 1) (g 2) (g 3) := by rw [f0, f1, f2, f3]; exact hG.1
  have hxl := h.len
  have hl4 := hh.1
  have fr : Off M0 M0 d (d + 9) := Off.rf
  refine C.intro (pl := [some (.ref d)]) pn_X9 rfl (fun h => absurd h (by decide)) rfl (Nat.le_of_ble_eq_true rfl) rfl ?_
  refine g_aload_n dX9_cost_0 rfl ?_
  refine z_getf fl_X9_7 dX9_cost_1 m_d rfl ?_
  refine z_bipush dX9_cost_4 (by decide +kernel) ?_
  refine z_iaload (j := 8) dX9_cost_6 m_v rfl (by omega) (by omega) ?_
  exact g_ireturn dX9_cost_7 rfl (Nat.le_of_ble_eq_true rfl) (Nat.le_of_ble_eq_true rfl) ⟨rfl, by rw [r8]; rfl, hR, fr⟩
set_option maxHeartbeats 1000000 in
theorem k_setOrder {M0 : pM} {z d : Nat} {k : kk} {a : Int} (hR : RM M0 d k) (h_a : -2147483648 ≤ a ∧ a < 2147483648) : RK I_X9_setOrder yX9_setOrder d [vI a] M0 z (oSetOrder a k) := by
  obtain ⟨σ, hs, x⟩ := k
  obtain ⟨g, gp, e, co, ec, cd, wr, tc, mo, tk, fm, ex, m_d, m_v, hf, hG, ⟨ga, m_as⟩, m_pa, hh, h, hx, hm, hg, ⟨gt, m_to⟩, ⟨gf, m_fo⟩⟩ := id hR
  try dsimp only at m_d hf hG hh h hx
  obtain ⟨⟨f0, f1, f2, f3⟩, hv, hvr⟩ := id hf
  obtain ⟨⟨r5, r6, r7, r8, r9⟩, ⟨l1, l2, l3⟩, hcb, hab, hrb⟩ := id hvr
  have hS : okS (g 0) (g 1) (g 2) (g 3) := by rw [f0, f1, f2, f3]; exact hG.1
  have hxl := h.len
  have hl4 := hh.1
  have fr : Off M0 M0 d (d + 9) := Off.rf
  unfold oSetOrder pushed
  try dsimp only
  refine C.intro (pl := [some (.ref d), some (vI a), none]) pn_X9 rfl (fun h => absurd h (by decide)) rfl (Nat.le_of_ble_eq_true rfl) rfl ?_
  by_cases hc : 0 ≤ a ∧ a ≤ 3
  · rw [if_pos hc]
    refine g_iload_n dX9_setOrder_0 rfl ?_
    refine z_iconst dX9_setOrder_1 ?_
    refine z_iconst dX9_setOrder_2 ?_
    refine z_callSR dX9_setOrder_3 lm_X9_130 lk_X9_in (r_in_t (by omega) (by omega) (by omega) (by omega)) rfl rfl (mkRoom rfl rfl) (Nat.le_of_ble_eq_true rfl) (Nat.le_of_ble_eq_true rfl) (Nat.le_of_ble_eq_true rfl) ?_
    refine z_if_ne (tgt := 11) dX9_setOrder_6 (by decide) (by omega) (fun c6 => ?_) (fun c6 => absurd c6 (by omega))
    refine g_aload_n dX9_setOrder_11 rfl ?_
    refine z_iconst dX9_setOrder_12 ?_
    refine g_iload_n dX9_setOrder_13 rfl ?_
    refine z_callVV dX9_setOrder_14 lm_X9_134 lk_X9_sets (r_sets (a := 0) (v := a) m_v hf m_d m_pa hh hG (by omega)) rfl rfl m_d rfl (mkRoom rfl rfl) (Nat.le_of_ble_eq_true rfl) (Nat.le_of_ble_eq_true rfl) (Nat.le_of_ble_eq_true rfl) (fun M r hp => ?_)
    obtain ⟨rfl, m_v, m_d, ⟨gp2, m_pa, hh2⟩, o1⟩ := hp
    have m_as := (o1 _ (by omega)).trans m_as
    have h := h.by_ (o1 _ (by omega))
    have hm := hm.by_ (o1 _ (by omega))
    have hg := hg.by_ (o1 _ (by omega))
    have m_to := (o1 _ (by omega)).trans m_to
    have m_fo := (o1 _ (by omega)).trans m_fo
    have fr : Off M0 M d (d + 9) := fun x hx => (o1 x (by omega)).trans (fr x hx)
    refine g_istore_n dX9_setOrder_17 rfl (Nat.le_of_ble_eq_true rfl) ?_
    refine g_aload_n dX9_setOrder_18 rfl ?_
    refine z_callVV dX9_setOrder_19 lm_X9_137 lk_X9_empties (r_empties m_d m_v) rfl rfl m_d rfl (mkRoom rfl rfl) (Nat.le_of_ble_eq_true rfl) (Nat.le_of_ble_eq_true rfl) (Nat.le_of_ble_eq_true rfl) (fun M r hp => ?_)
    obtain ⟨rfl, ⟨g2, m_v, hv2, ho2⟩, o1⟩ := hp
    have m_d := (o1 _ (by omega)).trans m_d
    have m_as := (o1 _ (by omega)).trans m_as
    have m_pa := (o1 _ (by omega)).trans m_pa
    have h := h.by_ (o1 _ (by omega))
    have hm := hm.by_ (o1 _ (by omega))
    have hg := hg.by_ (o1 _ (by omega))
    have m_to := (o1 _ (by omega)).trans m_to
    have m_fo := (o1 _ (by omega)).trans m_fo
    have fr : Off M0 M d (d + 9) := fun x hx => (o1 x (by omega)).trans (fr x hx)
    refine g_iload_n dX9_setOrder_22 rfl ?_
    exact g_ireturn dX9_setOrder_23 rfl (Nat.le_of_ble_eq_true rfl) (Nat.le_of_ble_eq_true rfl) ⟨rfl, by rw [f0], ⟨_, _, e, _, _, _, _, _, _, _, _, _, m_d, m_v, hf.mk_ ⟨by rw [ho2 0 (by omega), upZ_s], by rw [ho2 1 (by omega), upZ_n (by omega)]; exact f1, by rw [ho2 2 (by omega), upZ_n (by omega)]; exact f2, by rw [ho2 3 (by omega), upZ_n (by omega)]; exact f3⟩ hv2 (fun x hx => by rw [ho2 x (by omega), upZ_n (by omega)]) rfl, ⟨⟨hc, hG.1.2⟩, okT_nil, hG.2.2⟩, ⟨_, m_as⟩, m_pa, hh2, h, hx, hm, hg, ⟨_, m_to⟩, ⟨_, m_fo⟩⟩, fr⟩
  · rw [if_neg hc]
    refine g_iload_n dX9_setOrder_0 rfl ?_
    refine z_iconst dX9_setOrder_1 ?_
    refine z_iconst dX9_setOrder_2 ?_
    refine z_callSR dX9_setOrder_3 lm_X9_130 lk_X9_in (r_in_f (by omega) (by omega) (by omega) (by omega)) rfl rfl (mkRoom rfl rfl) (Nat.le_of_ble_eq_true rfl) (Nat.le_of_ble_eq_true rfl) (Nat.le_of_ble_eq_true rfl) ?_
    refine z_if_ne (tgt := 11) dX9_setOrder_6 (by decide) (by omega) (fun c6 => absurd c6 (by omega)) (fun c6 => ?_)
    refine z_iconst dX9_setOrder_9 ?_
    exact g_ireturn dX9_setOrder_10 rfl (Nat.le_of_ble_eq_true rfl) (Nat.le_of_ble_eq_true rfl) ⟨rfl, rfl, hR, fr⟩
set_option maxHeartbeats 1000000 in
theorem k_setExclusion {M0 : pM} {z d : Nat} {k : kk} {a : Int} (hR : RM M0 d k) (h_a : -2147483648 ≤ a ∧ a < 2147483648) (hb : a = 0 ∨ a = 1) : RK I_X9_setExclusion yX9_setExclusion d [vI a] M0 z (oSetExcl a k) := by
  obtain ⟨σ, hs, x⟩ := k
  obtain ⟨g, gp, e, co, ec, cd, wr, tc, mo, tk, fm, ex, m_d, m_v, hf, hG, ⟨ga, m_as⟩, m_pa, hh, h, hx, hm, hg, ⟨gt, m_to⟩, ⟨gf, m_fo⟩⟩ := id hR
  try dsimp only at m_d hf hG hh h hx
  obtain ⟨⟨f0, f1, f2, f3⟩, hv, hvr⟩ := id hf
  obtain ⟨⟨r5, r6, r7, r8, r9⟩, ⟨l1, l2, l3⟩, hcb, hab, hrb⟩ := id hvr
  have hS : okS (g 0) (g 1) (g 2) (g 3) := by rw [f0, f1, f2, f3]; exact hG.1
  have hxl := h.len
  have hl4 := hh.1
  have fr : Off M0 M0 d (d + 9) := Off.rf
  unfold oSetExcl pushed
  try dsimp only
  refine C.intro (pl := [some (.ref d), some (vI a)]) pn_X9 rfl (fun h => absurd h (by decide)) rfl (Nat.le_of_ble_eq_true rfl) rfl ?_
  rcases hb with rfl | rfl
  · refine g_aload_n dX9_setExclusion_0 rfl ?_
    refine z_iconst dX9_setExclusion_1 ?_
    refine g_iload_n dX9_setExclusion_2 rfl ?_
    refine z_if_eq (tgt := 10) dX9_setExclusion_3 (by decide) (by omega) (fun c3 => ?_) (fun c3 => absurd c3 (by omega))
    refine z_iconst dX9_setExclusion_10 ?_
    refine z_callVV dX9_setExclusion_11 lm_X9_134 lk_X9_sets (r_sets (a := 1) (v := 0) m_v hf m_d m_pa hh hG (by omega)) rfl rfl m_d rfl (mkRoom rfl rfl) (Nat.le_of_ble_eq_true rfl) (Nat.le_of_ble_eq_true rfl) (Nat.le_of_ble_eq_true rfl) (fun M r hp => ?_)
    obtain ⟨rfl, m_v, m_d, ⟨gp2, m_pa, hh2⟩, o1⟩ := hp
    have m_as := (o1 _ (by omega)).trans m_as
    have h := h.by_ (o1 _ (by omega))
    have hm := hm.by_ (o1 _ (by omega))
    have hg := hg.by_ (o1 _ (by omega))
    have m_to := (o1 _ (by omega)).trans m_to
    have m_fo := (o1 _ (by omega)).trans m_fo
    have fr : Off M0 M d (d + 9) := fun x hx => (o1 x (by omega)).trans (fr x hx)
    exact g_ireturn dX9_setExclusion_14 rfl (Nat.le_of_ble_eq_true rfl) (Nat.le_of_ble_eq_true rfl) ⟨rfl, by rw [f1], ⟨_, _, e, _, _, _, _, _, _, _, _, _, m_d, m_v, hf.mk_ ⟨by rw [upZ_n (by omega)]; exact f0, upZ_s, by rw [upZ_n (by omega)]; exact f2, by rw [upZ_n (by omega)]; exact f3⟩ (hv.by_ (fun x hx => upZ_n (by omega))) (fun x hx => upZ_n (by omega)) rfl, ⟨⟨hG.1.1, Or.inl rfl, hG.1.2.2⟩, hG.2⟩, ⟨_, m_as⟩, m_pa, hh2, h, hx, hm, hg, ⟨_, m_to⟩, ⟨_, m_fo⟩⟩, fr⟩
  · refine g_aload_n dX9_setExclusion_0 rfl ?_
    refine z_iconst dX9_setExclusion_1 ?_
    refine g_iload_n dX9_setExclusion_2 rfl ?_
    refine z_if_eq (tgt := 10) dX9_setExclusion_3 (by decide) (by omega) (fun c3 => absurd c3 (by omega)) (fun c3 => ?_)
    refine z_iconst dX9_setExclusion_6 ?_
    refine g_goto (tgt := 11) dX9_setExclusion_7 (by decide) ?_
    refine z_callVV dX9_setExclusion_11 lm_X9_134 lk_X9_sets (r_sets (a := 1) (v := 1) m_v hf m_d m_pa hh hG (by omega)) rfl rfl m_d rfl (mkRoom rfl rfl) (Nat.le_of_ble_eq_true rfl) (Nat.le_of_ble_eq_true rfl) (Nat.le_of_ble_eq_true rfl) (fun M r hp => ?_)
    obtain ⟨rfl, m_v, m_d, ⟨gp2, m_pa, hh2⟩, o1⟩ := hp
    have m_as := (o1 _ (by omega)).trans m_as
    have h := h.by_ (o1 _ (by omega))
    have hm := hm.by_ (o1 _ (by omega))
    have hg := hg.by_ (o1 _ (by omega))
    have m_to := (o1 _ (by omega)).trans m_to
    have m_fo := (o1 _ (by omega)).trans m_fo
    have fr : Off M0 M d (d + 9) := fun x hx => (o1 x (by omega)).trans (fr x hx)
    exact g_ireturn dX9_setExclusion_14 rfl (Nat.le_of_ble_eq_true rfl) (Nat.le_of_ble_eq_true rfl) ⟨rfl, by rw [f1], ⟨_, _, e, _, _, _, _, _, _, _, _, _, m_d, m_v, hf.mk_ ⟨by rw [upZ_n (by omega)]; exact f0, upZ_s, by rw [upZ_n (by omega)]; exact f2, by rw [upZ_n (by omega)]; exact f3⟩ (hv.by_ (fun x hx => upZ_n (by omega))) (fun x hx => upZ_n (by omega)) rfl, ⟨⟨hG.1.1, Or.inr rfl, hG.1.2.2⟩, hG.2⟩, ⟨_, m_as⟩, m_pa, hh2, h, hx, hm, hg, ⟨_, m_to⟩, ⟨_, m_fo⟩⟩, fr⟩
set_option maxHeartbeats 1000000 in
theorem k_setStep {M0 : pM} {z d : Nat} {k : kk} {a : Int} (hR : RM M0 d k) (h_a : -2147483648 ≤ a ∧ a < 2147483648) : RK I_X9_setStep yX9_setStep d [vI a] M0 z (oSetStep a k) := by
  obtain ⟨σ, hs, x⟩ := k
  obtain ⟨g, gp, e, co, ec, cd, wr, tc, mo, tk, fm, ex, m_d, m_v, hf, hG, ⟨ga, m_as⟩, m_pa, hh, h, hx, hm, hg, ⟨gt, m_to⟩, ⟨gf, m_fo⟩⟩ := id hR
  try dsimp only at m_d hf hG hh h hx
  obtain ⟨⟨f0, f1, f2, f3⟩, hv, hvr⟩ := id hf
  obtain ⟨⟨r5, r6, r7, r8, r9⟩, ⟨l1, l2, l3⟩, hcb, hab, hrb⟩ := id hvr
  have hS : okS (g 0) (g 1) (g 2) (g 3) := by rw [f0, f1, f2, f3]; exact hG.1
  have hxl := h.len
  have hl4 := hh.1
  have fr : Off M0 M0 d (d + 9) := Off.rf
  unfold oSetStep pushed
  try dsimp only
  refine C.intro (pl := [some (.ref d), some (vI a)]) pn_X9 rfl (fun h => absurd h (by decide)) rfl (Nat.le_of_ble_eq_true rfl) rfl ?_
  by_cases hc : 1 ≤ a ∧ a ≤ 10
  · rw [if_pos hc]
    refine g_iload_n dX9_setStep_0 rfl ?_
    refine z_iconst dX9_setStep_1 ?_
    refine z_bipush dX9_setStep_2 (by decide +kernel) ?_
    refine z_callSR dX9_setStep_4 lm_X9_130 lk_X9_in (r_in_t (by omega) (by omega) (by omega) (by omega)) rfl rfl (mkRoom rfl rfl) (Nat.le_of_ble_eq_true rfl) (Nat.le_of_ble_eq_true rfl) (Nat.le_of_ble_eq_true rfl) ?_
    refine z_if_eq (tgt := 19) dX9_setStep_7 (by decide) (by omega) (fun c7 => absurd c7 (by omega)) (fun c7 => ?_)
    refine g_aload_n dX9_setStep_10 rfl ?_
    refine z_iconst dX9_setStep_11 ?_
    refine g_iload_n dX9_setStep_12 rfl ?_
    refine z_callVV dX9_setStep_13 lm_X9_134 lk_X9_sets (r_sets (a := 2) (v := a) m_v hf m_d m_pa hh hG (by omega)) rfl rfl m_d rfl (mkRoom rfl rfl) (Nat.le_of_ble_eq_true rfl) (Nat.le_of_ble_eq_true rfl) (Nat.le_of_ble_eq_true rfl) (fun M r hp => ?_)
    obtain ⟨rfl, m_v, m_d, ⟨gp2, m_pa, hh2⟩, o1⟩ := hp
    have m_as := (o1 _ (by omega)).trans m_as
    have h := h.by_ (o1 _ (by omega))
    have hm := hm.by_ (o1 _ (by omega))
    have hg := hg.by_ (o1 _ (by omega))
    have m_to := (o1 _ (by omega)).trans m_to
    have m_fo := (o1 _ (by omega)).trans m_fo
    have fr : Off M0 M d (d + 9) := fun x hx => (o1 x (by omega)).trans (fr x hx)
    refine g_goto (tgt := 20) dX9_setStep_16 (by decide) ?_
    exact g_ireturn dX9_setStep_20 rfl (Nat.le_of_ble_eq_true rfl) (Nat.le_of_ble_eq_true rfl) ⟨rfl, by rw [f2], ⟨_, _, e, _, _, _, _, _, _, _, _, _, m_d, m_v, hf.mk_ ⟨by rw [upZ_n (by omega)]; exact f0, by rw [upZ_n (by omega)]; exact f1, upZ_s, by rw [upZ_n (by omega)]; exact f3⟩ (hv.by_ (fun x hx => upZ_n (by omega))) (fun x hx => upZ_n (by omega)) rfl, ⟨⟨hG.1.1, hG.1.2.1, hc, hG.1.2.2.2⟩, hG.2⟩, ⟨_, m_as⟩, m_pa, hh2, h, hx, hm, hg, ⟨_, m_to⟩, ⟨_, m_fo⟩⟩, fr⟩
  · rw [if_neg hc]
    refine g_iload_n dX9_setStep_0 rfl ?_
    refine z_iconst dX9_setStep_1 ?_
    refine z_bipush dX9_setStep_2 (by decide +kernel) ?_
    refine z_callSR dX9_setStep_4 lm_X9_130 lk_X9_in (r_in_f (by omega) (by omega) (by omega) (by omega)) rfl rfl (mkRoom rfl rfl) (Nat.le_of_ble_eq_true rfl) (Nat.le_of_ble_eq_true rfl) (Nat.le_of_ble_eq_true rfl) ?_
    refine z_if_eq (tgt := 19) dX9_setStep_7 (by decide) (by omega) (fun c7 => ?_) (fun c7 => absurd c7 (by omega))
    refine z_iconst dX9_setStep_19 ?_
    exact g_ireturn dX9_setStep_20 rfl (Nat.le_of_ble_eq_true rfl) (Nat.le_of_ble_eq_true rfl) ⟨rfl, rfl, hR, fr⟩
set_option maxHeartbeats 1000000 in
theorem k_setLimit {M0 : pM} {z d : Nat} {k : kk} {a : Int} (hR : RM M0 d k) (h_a : -2147483648 ≤ a ∧ a < 2147483648) : RK I_X9_setLimit yX9_setLimit d [vI a] M0 z (oSetLimit a k) := by
  obtain ⟨σ, hs, x⟩ := k
  obtain ⟨g, gp, e, co, ec, cd, wr, tc, mo, tk, fm, ex, m_d, m_v, hf, hG, ⟨ga, m_as⟩, m_pa, hh, h, hx, hm, hg, ⟨gt, m_to⟩, ⟨gf, m_fo⟩⟩ := id hR
  try dsimp only at m_d hf hG hh h hx
  obtain ⟨⟨f0, f1, f2, f3⟩, hv, hvr⟩ := id hf
  obtain ⟨⟨r5, r6, r7, r8, r9⟩, ⟨l1, l2, l3⟩, hcb, hab, hrb⟩ := id hvr
  have hS : okS (g 0) (g 1) (g 2) (g 3) := by rw [f0, f1, f2, f3]; exact hG.1
  have hxl := h.len
  have hl4 := hh.1
  have fr : Off M0 M0 d (d + 9) := Off.rf
  unfold oSetLimit pushed
  try dsimp only
  refine C.intro (pl := [some (.ref d), some (vI a)]) pn_X9 rfl (fun h => absurd h (by decide)) rfl (Nat.le_of_ble_eq_true rfl) rfl ?_
  by_cases hc : 20 ≤ a ∧ a ≤ 1000
  · rw [if_pos hc]
    refine g_iload_n dX9_setLimit_0 rfl ?_
    refine z_bipush dX9_setLimit_1 (by decide +kernel) ?_
    refine z_sipush dX9_setLimit_3 (by decide +kernel) ?_
    refine z_callSR dX9_setLimit_6 lm_X9_130 lk_X9_in (r_in_t (by omega) (by omega) (by omega) (by omega)) rfl rfl (mkRoom rfl rfl) (Nat.le_of_ble_eq_true rfl) (Nat.le_of_ble_eq_true rfl) (Nat.le_of_ble_eq_true rfl) ?_
    refine z_if_eq (tgt := 21) dX9_setLimit_9 (by decide) (by omega) (fun c9 => absurd c9 (by omega)) (fun c9 => ?_)
    refine g_aload_n dX9_setLimit_12 rfl ?_
    refine z_iconst dX9_setLimit_13 ?_
    refine g_iload_n dX9_setLimit_14 rfl ?_
    refine z_callVV dX9_setLimit_15 lm_X9_134 lk_X9_sets (r_sets (a := 3) (v := a) m_v hf m_d m_pa hh hG (by omega)) rfl rfl m_d rfl (mkRoom rfl rfl) (Nat.le_of_ble_eq_true rfl) (Nat.le_of_ble_eq_true rfl) (Nat.le_of_ble_eq_true rfl) (fun M r hp => ?_)
    obtain ⟨rfl, m_v, m_d, ⟨gp2, m_pa, hh2⟩, o1⟩ := hp
    have m_as := (o1 _ (by omega)).trans m_as
    have h := h.by_ (o1 _ (by omega))
    have hm := hm.by_ (o1 _ (by omega))
    have hg := hg.by_ (o1 _ (by omega))
    have m_to := (o1 _ (by omega)).trans m_to
    have m_fo := (o1 _ (by omega)).trans m_fo
    have fr : Off M0 M d (d + 9) := fun x hx => (o1 x (by omega)).trans (fr x hx)
    refine g_goto (tgt := 22) dX9_setLimit_18 (by decide) ?_
    exact g_ireturn dX9_setLimit_22 rfl (Nat.le_of_ble_eq_true rfl) (Nat.le_of_ble_eq_true rfl) ⟨rfl, by rw [f3], ⟨_, _, e, _, _, _, _, _, _, _, _, _, m_d, m_v, hf.mk_ ⟨by rw [upZ_n (by omega)]; exact f0, by rw [upZ_n (by omega)]; exact f1, by rw [upZ_n (by omega)]; exact f2, upZ_s⟩ (hv.by_ (fun x hx => upZ_n (by omega))) (fun x hx => upZ_n (by omega)) rfl, ⟨⟨hG.1.1, hG.1.2.1, hG.1.2.2.1, hc⟩, hG.2⟩, ⟨_, m_as⟩, m_pa, hh2, h, hx, hm, hg, ⟨_, m_to⟩, ⟨_, m_fo⟩⟩, fr⟩
  · rw [if_neg hc]
    refine g_iload_n dX9_setLimit_0 rfl ?_
    refine z_bipush dX9_setLimit_1 (by decide +kernel) ?_
    refine z_sipush dX9_setLimit_3 (by decide +kernel) ?_
    refine z_callSR dX9_setLimit_6 lm_X9_130 lk_X9_in (r_in_f (by omega) (by omega) (by omega) (by omega)) rfl rfl (mkRoom rfl rfl) (Nat.le_of_ble_eq_true rfl) (Nat.le_of_ble_eq_true rfl) (Nat.le_of_ble_eq_true rfl) ?_
    refine z_if_eq (tgt := 21) dX9_setLimit_9 (by decide) (by omega) (fun c9 => ?_) (fun c9 => absurd c9 (by omega))
    refine z_iconst dX9_setLimit_21 ?_
    exact g_ireturn dX9_setLimit_22 rfl (Nat.le_of_ble_eq_true rfl) (Nat.le_of_ble_eq_true rfl) ⟨rfl, rfl, hR, fr⟩
set_option maxHeartbeats 1000000 in
theorem k_forget {M0 : pM} {z d : Nat} {k : kk}  (hR : RM M0 d k)  : RK I_X9_forget yX9_forget d [] M0 z (oForget k) := by
  obtain ⟨σ, hs, x⟩ := k
  obtain ⟨g, gp, e, co, ec, cd, wr, tc, mo, tk, fm, ex, m_d, m_v, hf, hG, ⟨ga, m_as⟩, m_pa, hh, h, hx, hm, hg, ⟨gt, m_to⟩, ⟨gf, m_fo⟩⟩ := id hR
  try dsimp only at m_d hf hG hh h hx
  obtain ⟨⟨f0, f1, f2, f3⟩, hv, hvr⟩ := id hf
  obtain ⟨⟨r5, r6, r7, r8, r9⟩, ⟨l1, l2, l3⟩, hcb, hab, hrb⟩ := id hvr
  have hS : okS (g 0) (g 1) (g 2) (g 3) := by rw [f0, f1, f2, f3]; exact hG.1
  have hxl := h.len
  have hl4 := hh.1
  have fr : Off M0 M0 d (d + 9) := Off.rf
  unfold oForget pushed
  try dsimp only
  refine C.intro (pl := [some (.ref d), none]) pn_X9 rfl (fun h => absurd h (by decide)) rfl (Nat.le_of_ble_eq_true rfl) rfl ?_
  refine g_aload_n dX9_forget_0 rfl ?_
  refine g_aload_n dX9_forget_1 rfl ?_
  refine z_getf fl_X9_7 dX9_forget_2 m_d rfl ?_
  refine z_callVV dX9_forget_5 lm_X9_41 lk_X9_keeps (r_keeps m_v (by omega) hf m_d m_pa hh hG) rfl rfl m_d rfl (mkRoom rfl rfl) (Nat.le_of_ble_eq_true rfl) (Nat.le_of_ble_eq_true rfl) (Nat.le_of_ble_eq_true rfl) (fun M r hp => ?_)
  obtain ⟨rfl, m_d, ⟨gp2, m_pa, hh2⟩, o1⟩ := hp
  have m_v := (o1 _ (by omega)).trans m_v
  have m_as := (o1 _ (by omega)).trans m_as
  have h := h.by_ (o1 _ (by omega))
  have hm := hm.by_ (o1 _ (by omega))
  have hg := hg.by_ (o1 _ (by omega))
  have m_to := (o1 _ (by omega)).trans m_to
  have m_fo := (o1 _ (by omega)).trans m_fo
  have fr : Off M0 M d (d + 9) := fun x hx => (o1 x (by omega)).trans (fr x hx)
  refine g_aload_n dX9_forget_8 rfl ?_
  refine z_getf fl_X9_7 dX9_forget_9 m_d rfl ?_
  refine z_iconst dX9_forget_12 ?_
  refine z_iaload (j := 4) dX9_forget_13 m_v rfl (by omega) (by omega) ?_
  refine g_istore_n dX9_forget_14 rfl (Nat.le_of_ble_eq_true rfl) ?_
  refine g_aload_n dX9_forget_15 rfl ?_
  refine z_callVV dX9_forget_16 lm_X9_137 lk_X9_empties (r_empties m_d m_v) rfl rfl m_d rfl (mkRoom rfl rfl) (Nat.le_of_ble_eq_true rfl) (Nat.le_of_ble_eq_true rfl) (Nat.le_of_ble_eq_true rfl) (fun M r hp => ?_)
  obtain ⟨rfl, ⟨g2, m_v, hv2, ho2⟩, o1⟩ := hp
  have m_d := (o1 _ (by omega)).trans m_d
  have m_as := (o1 _ (by omega)).trans m_as
  have m_pa := (o1 _ (by omega)).trans m_pa
  have h := h.by_ (o1 _ (by omega))
  have hm := hm.by_ (o1 _ (by omega))
  have hg := hg.by_ (o1 _ (by omega))
  have m_to := (o1 _ (by omega)).trans m_to
  have m_fo := (o1 _ (by omega)).trans m_fo
  have fr : Off M0 M d (d + 9) := fun x hx => (o1 x (by omega)).trans (fr x hx)
  refine g_iload_n dX9_forget_19 rfl ?_
  exact g_ireturn dX9_forget_20 rfl (Nat.le_of_ble_eq_true rfl) (Nat.le_of_ble_eq_true rfl) ⟨rfl, by rw [hv.1], ⟨_, _, e, _, _, _, _, _, _, _, _, _, m_d, m_v, hf.mk_ ⟨by rw [ho2 0 (by omega)]; exact f0, by rw [ho2 1 (by omega)]; exact f1, by rw [ho2 2 (by omega)]; exact f2, by rw [ho2 3 (by omega)]; exact f3⟩ hv2 (fun x hx => ho2 x (by omega)) rfl, ⟨hG.1, okT_nil, hG.2.2⟩, ⟨_, m_as⟩, m_pa, hh2, h, hx, hm, hg, ⟨_, m_to⟩, ⟨_, m_fo⟩⟩, fr⟩
set_option maxHeartbeats 1000000 in
theorem k_learn {M0 : pM} {z d : Nat} {k : kk}  (hR : RM M0 d k)  : RK I_X9_learn yX9_learn d [] M0 z (oLearn k) := by
  obtain ⟨σ, hs, x⟩ := k
  obtain ⟨g, gp, e, co, ec, cd, wr, tc, mo, tk, fm, ex, m_d, m_v, hf, hG, ⟨ga, m_as⟩, m_pa, hh, h, hx, hm, hg, ⟨gt, m_to⟩, ⟨gf, m_fo⟩⟩ := id hR
  try dsimp only at m_d hf hG hh h hx
  obtain ⟨⟨f0, f1, f2, f3⟩, hv, hvr⟩ := id hf
  obtain ⟨⟨r5, r6, r7, r8, r9⟩, ⟨l1, l2, l3⟩, hcb, hab, hrb⟩ := id hvr
  have hS : okS (g 0) (g 1) (g 2) (g 3) := by rw [f0, f1, f2, f3]; exact hG.1
  have hxl := h.len
  have hl4 := hh.1
  have fr : Off M0 M0 d (d + 9) := Off.rf
  unfold oLearn pushed
  try dsimp only
  refine C.intro (pl := [some (.ref d), none]) pn_X9 rfl (fun h => absurd h (by decide)) rfl (Nat.le_of_ble_eq_true rfl) rfl ?_
  have loop : ∀ (u i : Nat) (M : pM) (g1 gp2 : Nat → Int), i + u = x.length + 1 → M d = some (ro d ((hpush hs σ).length : Int) (x.length : Int) e.1 e.2.1 (e.2.2.1.length : Int) e.2.2.2 co ec cd wr tc mo tk fm) → M (d + 1) = some (arI 25700 g1) → VM g1 (lrn (sO σ) (sS σ) (sL σ) x (sT σ) i) → VO g g1 → M (d + 2) = some (arI 25700 ga) → M (d + 3) = some (arI 102800 gp2) → HP gp2 (hpush hs σ) → Tx M (d + 4) 200 x → Ma M d e.2.2.1 → Go M d ex → M (d + 7) = some (arI 804 gt) → M (d + 8) = some (arI 201 gf) → Off M0 M d (d + 9) → G I_X9_learn 0 0 (fun M' z' r' => z' = z ∧ r' = some (vI ((lrn (sO σ) (sS σ) (sL σ) x (sT σ) (x.length + 1)).length : Int)) ∧ RM M' d ((sO σ, sX σ, sS σ, sL σ, (lrn (sO σ) (sS σ) (sL σ) x (sT σ) (x.length + 1)), sC σ, sA σ, sG σ, sR σ), hpush hs σ, x) ∧ Off M0 M' d (d + 9)) 0 0 10 [some (.ref d), some (vI (i : Int))] [] M z := by
    intro u
    induction u with
    | zero =>
      intro i M g1 gp2 hi m_d m_v hv ho m_as m_pa hh2 h hm hg m_to m_fo fr
      have ei : i = x.length + 1 := by omega
      subst ei
      have hT := lrn_ok hG.1 hx hG.2.1 (x.length + 1) (by omega)
      refine g_iload_n dX9_learn_10 rfl ?_
      refine g_aload_n dX9_learn_11 rfl ?_
      refine z_getf fl_X9_140 dX9_learn_12 m_d rfl ?_
      refine z_icmp_gt (tgt := 46) dX9_learn_15 (by decide) (by omega) (by omega) (fun c15 => ?_) (fun c15 => absurd c15 (by omega))
      refine g_aload_n dX9_learn_46 rfl ?_
      refine z_getf fl_X9_7 dX9_learn_47 m_d rfl ?_
      refine z_iconst dX9_learn_50 ?_
      refine z_iaload (j := 4) dX9_learn_51 m_v rfl (by omega) (by omega) ?_
      exact g_ireturn dX9_learn_52 rfl (Nat.le_of_ble_eq_true rfl) (Nat.le_of_ble_eq_true rfl) ⟨rfl, by rw [hv.1], ⟨_, _, e, _, _, _, _, _, _, _, _, _, m_d, m_v, hf.mk_ ⟨by rw [ho 0 (by omega)]; exact f0, by rw [ho 1 (by omega)]; exact f1, by rw [ho 2 (by omega)]; exact f2, by rw [ho 3 (by omega)]; exact f3⟩ hv (fun x hx => ho x (by omega)) rfl, ⟨hG.1, hT, hG.2.2⟩, ⟨_, m_as⟩, m_pa, hh2, h, hx, hm, hg, ⟨_, m_to⟩, ⟨_, m_fo⟩⟩, fr⟩
    | succ u ih =>
      intro i M g1 gp2 hi m_d m_v hv ho m_as m_pa hh2 h hm hg m_to m_fo fr
      have hT := lrn_ok hG.1 hx hG.2.1 i (by omega)
      have p0 := (ho 0 (by omega)).trans f0
      have p1 := (ho 1 (by omega)).trans f1
      have p2 := (ho 2 (by omega)).trans f2
      have p3 := (ho 3 (by omega)).trans f3
      have hS1 : okS (g1 0) (g1 1) (g1 2) (g1 3) := by rw [p0, p1, p2, p3]; exact hG.1
      have hsy := sy_lt hx i
      have ih2 := fun M2 g2 => ih (i + 1) M2 g2 gp2
      rw [lrn] at ih2
      refine g_iload_n dX9_learn_10 rfl ?_
      refine g_aload_n dX9_learn_11 rfl ?_
      refine z_getf fl_X9_140 dX9_learn_12 m_d rfl ?_
      refine z_icmp_gt (tgt := 46) dX9_learn_15 (by decide) (by omega) (by omega) (fun c15 => absurd c15 (by omega)) (fun c15 => ?_)
      refine g_aload_n dX9_learn_18 rfl ?_
      refine g_aload_n dX9_learn_19 rfl ?_
      refine z_getf fl_X9_20 dX9_learn_20 m_d rfl ?_
      refine g_iload_n dX9_learn_23 rfl ?_
      refine g_aload_n dX9_learn_24 rfl ?_
      refine g_aload_n dX9_learn_25 rfl ?_
      refine z_getf fl_X9_20 dX9_learn_26 m_d rfl ?_
      refine g_aload_n dX9_learn_29 rfl ?_
      refine z_getf fl_X9_140 dX9_learn_30 m_d rfl ?_
      refine g_iload_n dX9_learn_33 rfl ?_
      refine z_callVR dX9_learn_34 lm_X9_143 lk_X9_symbolAt (r_symbolAt (k := i) h hx (by omega)) rfl rfl m_d rfl (mkRoom rfl rfl) (Nat.le_of_ble_eq_true rfl) (Nat.le_of_ble_eq_true rfl) (Nat.le_of_ble_eq_true rfl) ?_
      refine z_callVV dX9_learn_37 lm_X9_146 lk_X9_learns (r_learns (s := sy x i) m_d m_v hv hT hS1 h (by omega) hx (by omega) hsy) rfl rfl m_d rfl (mkRoom rfl rfl) (Nat.le_of_ble_eq_true rfl) (Nat.le_of_ble_eq_true rfl) (Nat.le_of_ble_eq_true rfl) (fun M r hp => ?_)
      rw [p0, p2, p3] at hp
      obtain ⟨rfl, g2, m_v, hv, ho2, o1⟩ := hp
      have m_d := (o1 _ (by omega)).trans m_d
      have m_as := (o1 _ (by omega)).trans m_as
      have m_pa := (o1 _ (by omega)).trans m_pa
      have h := h.by_ (o1 _ (by omega))
      have hm := hm.by_ (o1 _ (by omega))
      have hg := hg.by_ (o1 _ (by omega))
      have m_to := (o1 _ (by omega)).trans m_to
      have m_fo := (o1 _ (by omega)).trans m_fo
      have fr : Off M0 M d (d + 9) := fun x hx => (o1 x (by omega)).trans (fr x hx)
      refine z_iinc dX9_learn_40 rfl (Nat.le_of_ble_eq_true rfl) ?_
      refine g_goto (tgt := 10) dX9_learn_43 (by decide) ?_
      exact ih2 M g2 (by omega) m_d m_v hv (ho.tr ho2) m_as m_pa hh2 h hm hg m_to m_fo fr
  refine g_aload_n dX9_learn_0 rfl ?_
  refine g_aload_n dX9_learn_1 rfl ?_
  refine z_getf fl_X9_7 dX9_learn_2 m_d rfl ?_
  refine z_callVV dX9_learn_5 lm_X9_41 lk_X9_keeps (r_keeps m_v (by omega) hf m_d m_pa hh hG) rfl rfl m_d rfl (mkRoom rfl rfl) (Nat.le_of_ble_eq_true rfl) (Nat.le_of_ble_eq_true rfl) (Nat.le_of_ble_eq_true rfl) (fun M r hp => ?_)
  obtain ⟨rfl, m_d, ⟨gp2, m_pa, hh2⟩, o1⟩ := hp
  have m_v := (o1 _ (by omega)).trans m_v
  have m_as := (o1 _ (by omega)).trans m_as
  have h := h.by_ (o1 _ (by omega))
  have hm := hm.by_ (o1 _ (by omega))
  have hg := hg.by_ (o1 _ (by omega))
  have m_to := (o1 _ (by omega)).trans m_to
  have m_fo := (o1 _ (by omega)).trans m_fo
  have fr : Off M0 M d (d + 9) := fun x hx => (o1 x (by omega)).trans (fr x hx)
  refine z_iconst dX9_learn_8 ?_
  refine g_istore_n dX9_learn_9 rfl (Nat.le_of_ble_eq_true rfl) ?_
  exact loop (x.length + 1) 0 M g gp2 (by omega) m_d m_v hv VO.rf m_as m_pa hh2 h hm hg m_to m_fo fr
set_option maxHeartbeats 1000000 in
theorem k_type {M0 : pM} {z d : Nat} {k : kk} {a : Int} (hR : RM M0 d k) (h_a : -2147483648 ≤ a ∧ a < 2147483648) : RK I_X9_type yX9_type d [vI a] M0 z (oType a k) := by
  obtain ⟨σ, hs, x⟩ := k
  obtain ⟨g, gp, e, co, ec, cd, wr, tc, mo, tk, fm, ex, m_d, m_v, hf, hG, ⟨ga, m_as⟩, m_pa, hh, h, hx, hm, hg, ⟨gt, m_to⟩, ⟨gf, m_fo⟩⟩ := id hR
  try dsimp only at m_d hf hG hh h hx
  obtain ⟨⟨f0, f1, f2, f3⟩, hv, hvr⟩ := id hf
  obtain ⟨⟨r5, r6, r7, r8, r9⟩, ⟨l1, l2, l3⟩, hcb, hab, hrb⟩ := id hvr
  have hS : okS (g 0) (g 1) (g 2) (g 3) := by rw [f0, f1, f2, f3]; exact hG.1
  have hxl := h.len
  have hl4 := hh.1
  have fr : Off M0 M0 d (d + 9) := Off.rf
  unfold oType
  try dsimp only
  refine C.intro (pl := [some (.ref d), some (vI a)]) pn_X9 rfl (fun h => absurd h (by decide)) rfl (Nat.le_of_ble_eq_true rfl) rfl ?_
  by_cases hc : 32 ≤ a ∧ a ≤ 126
  · rw [if_pos hc]
    by_cases hl : x.length < 200
    · rw [if_pos hl]
      obtain ⟨gx, m_tx, hx1, hx2, hx3⟩ := id h
      have elen : ((x ++ [a - 32]).length : Int) = (x.length : Int) + 1 := by rw [List.length_append, List.length_singleton]; omega
      refine g_iload_n dX9_type_0 rfl ?_
      refine z_bipush dX9_type_1 (by decide +kernel) ?_
      refine z_bipush dX9_type_3 (by decide +kernel) ?_
      refine z_callSR dX9_type_5 lm_X9_130 lk_X9_in (r_in_t (by omega) (by omega) (by omega) (by omega)) rfl rfl (mkRoom rfl rfl) (Nat.le_of_ble_eq_true rfl) (Nat.le_of_ble_eq_true rfl) (Nat.le_of_ble_eq_true rfl) ?_
      refine z_if_ne (tgt := 13) dX9_type_8 (by decide) (by omega) (fun c8 => ?_) (fun c8 => absurd c8 (by omega))
      refine g_aload_n dX9_type_13 rfl ?_
      refine z_getf fl_X9_140 dX9_type_14 m_d rfl ?_
      refine z_sipush dX9_type_17 (by decide +kernel) ?_
      refine z_icmp_ne (tgt := 26) dX9_type_20 (by decide) (by omega) (by omega) (fun c20 => ?_) (fun c20 => absurd c20 (by omega))
      refine g_aload_n dX9_type_26 rfl ?_
      refine z_getf fl_X9_20 dX9_type_27 m_d rfl ?_
      refine g_aload_n dX9_type_30 rfl ?_
      refine z_getf fl_X9_140 dX9_type_31 m_d rfl ?_
      refine g_iload_n dX9_type_34 rfl ?_
      refine z_iastore (j := x.length) dX9_type_35 m_tx (by omega) (by omega) (by omega) (fun M m_tx o => ?_)
      have m_d := (o _ (by omega)).trans m_d
      have m_v := (o _ (by omega)).trans m_v
      have m_as := (o _ (by omega)).trans m_as
      have m_pa := (o _ (by omega)).trans m_pa
      have hm := hm.by_ (o _ (by omega))
      have hg := hg.by_ (o _ (by omega))
      have m_to := (o _ (by omega)).trans m_to
      have m_fo := (o _ (by omega)).trans m_fo
      have fr : Off M0 M d (d + 9) := fun x hx => (o x (by omega)).trans (fr x hx)
      have h2 : Tx M (d + 4) 200 (x ++ [a - 32]) := ⟨_, m_tx, by omega, hx2, fun i hi => by
        by_cases q : i = x.length
        · rw [q, upZ_s, getD_last]; omega
        · rw [upZ_n q, hx3 i (by omega), getD_app (by omega)]⟩
      refine g_aload_n dX9_type_36 rfl ?_
      refine g_dup dX9_type_37 rfl ?_
      refine z_getf fl_X9_140 dX9_type_38 m_d rfl ?_
      refine z_iconst dX9_type_41 ?_
      refine z_iadd dX9_type_42 ?_
      refine z_putf fl_X9_140 dX9_type_43 m_d rfl (Nat.le_of_ble_eq_true rfl) rfl rfl (fun M m_d o => ?_)
      have m_v := (o _ (by omega)).trans m_v
      have m_tx := (o _ (by omega)).trans m_tx
      have h2 := h2.by_ (o _ (by omega))
      have m_as := (o _ (by omega)).trans m_as
      have m_pa := (o _ (by omega)).trans m_pa
      have hm := hm.by_ (o _ (by omega))
      have hg := hg.by_ (o _ (by omega))
      have m_to := (o _ (by omega)).trans m_to
      have m_fo := (o _ (by omega)).trans m_fo
      have fr : Off M0 M d (d + 9) := fun x hx => (o x (by omega)).trans (fr x hx)
      refine g_aload_n dX9_type_46 rfl ?_
      refine z_getf fl_X9_140 dX9_type_47 m_d rfl ?_
      exact g_ireturn dX9_type_50 rfl (Nat.le_of_ble_eq_true rfl) (Nat.le_of_ble_eq_true rfl) ⟨rfl, rfl, ⟨_, _, e, _, _, _, _, _, _, _, _, _, by rw [elen]; exact m_d, m_v, hf, hG, ⟨_, m_as⟩, m_pa, hh, h2, hx.snoc (by omega), hm, hg, ⟨_, m_to⟩, ⟨_, m_fo⟩⟩, fr⟩
    · rw [if_neg hl]
      refine g_iload_n dX9_type_0 rfl ?_
      refine z_bipush dX9_type_1 (by decide +kernel) ?_
      refine z_bipush dX9_type_3 (by decide +kernel) ?_
      refine z_callSR dX9_type_5 lm_X9_130 lk_X9_in (r_in_t (by omega) (by omega) (by omega) (by omega)) rfl rfl (mkRoom rfl rfl) (Nat.le_of_ble_eq_true rfl) (Nat.le_of_ble_eq_true rfl) (Nat.le_of_ble_eq_true rfl) ?_
      refine z_if_ne (tgt := 13) dX9_type_8 (by decide) (by omega) (fun c8 => ?_) (fun c8 => absurd c8 (by omega))
      refine g_aload_n dX9_type_13 rfl ?_
      refine z_getf fl_X9_140 dX9_type_14 m_d rfl ?_
      refine z_sipush dX9_type_17 (by decide +kernel) ?_
      refine z_icmp_ne (tgt := 26) dX9_type_20 (by decide) (by omega) (by omega) (fun c20 => absurd c20 (by omega)) (fun c20 => ?_)
      refine z_bipush dX9_type_23 (by decide +kernel) ?_
      exact g_ireturn dX9_type_25 rfl (Nat.le_of_ble_eq_true rfl) (Nat.le_of_ble_eq_true rfl) ⟨rfl, rfl, hR, fr⟩
  · rw [if_neg hc]
    refine g_iload_n dX9_type_0 rfl ?_
    refine z_bipush dX9_type_1 (by decide +kernel) ?_
    refine z_bipush dX9_type_3 (by decide +kernel) ?_
    refine z_callSR dX9_type_5 lm_X9_130 lk_X9_in (r_in_f (by omega) (by omega) (by omega) (by omega)) rfl rfl (mkRoom rfl rfl) (Nat.le_of_ble_eq_true rfl) (Nat.le_of_ble_eq_true rfl) (Nat.le_of_ble_eq_true rfl) ?_
    refine z_if_ne (tgt := 13) dX9_type_8 (by decide) (by omega) (fun c8 => absurd c8 (by omega)) (fun c8 => ?_)
    refine z_iconst dX9_type_11 ?_
    exact g_ireturn dX9_type_12 rfl (Nat.le_of_ble_eq_true rfl) (Nat.le_of_ble_eq_true rfl) ⟨rfl, rfl, hR, fr⟩
set_option maxHeartbeats 1000000 in
theorem k_remove {M0 : pM} {z d : Nat} {k : kk} {a : Int} (hR : RM M0 d k) (h_a : -2147483648 ≤ a ∧ a < 2147483648) : RK I_X9_remove yX9_remove d [vI a] M0 z (oRemove a k) := by
  obtain ⟨σ, hs, x⟩ := k
  obtain ⟨g, gp, e, co, ec, cd, wr, tc, mo, tk, fm, ex, m_d, m_v, hf, hG, ⟨ga, m_as⟩, m_pa, hh, h, hx, hm, hg, ⟨gt, m_to⟩, ⟨gf, m_fo⟩⟩ := id hR
  try dsimp only at m_d hf hG hh h hx
  obtain ⟨⟨f0, f1, f2, f3⟩, hv, hvr⟩ := id hf
  obtain ⟨⟨r5, r6, r7, r8, r9⟩, ⟨l1, l2, l3⟩, hcb, hab, hrb⟩ := id hvr
  have hS : okS (g 0) (g 1) (g 2) (g 3) := by rw [f0, f1, f2, f3]; exact hG.1
  have hxl := h.len
  have hl4 := hh.1
  have fr : Off M0 M0 d (d + 9) := Off.rf
  unfold oRemove
  try dsimp only
  refine C.intro (pl := [some (.ref d), some (vI a)]) pn_X9 rfl (fun h => absurd h (by decide)) rfl (Nat.le_of_ble_eq_true rfl) rfl ?_
  by_cases hc : a < 0
  · rw [if_pos hc]
    refine g_iload_n dX9_remove_0 rfl ?_
    refine z_if_ge (tgt := 6) dX9_remove_1 (by decide) (by omega) (fun c1 => absurd c1 (by omega)) (fun c1 => ?_)
    refine z_iconst dX9_remove_4 ?_
    exact g_ireturn dX9_remove_5 rfl (Nat.le_of_ble_eq_true rfl) (Nat.le_of_ble_eq_true rfl) ⟨rfl, rfl, hR, fr⟩
  · rw [if_neg hc]
    have h2 : ∀ M, Tx M (d + 4) 200 x → Tx M (d + 4) 200 (x.take (x.length - a.toNat)) := fun M h => by
      obtain ⟨gx, m_tx, hx1, hx2, hx3⟩ := h
      refine ⟨gx, m_tx, by rw [List.length_take]; omega, hx2, fun i hi => ?_⟩
      rw [List.length_take] at hi
      rw [hx3 i (by omega), List.getD_eq_getElem?_getD, List.getD_eq_getElem?_getD, List.getElem?_take_of_lt (by omega)]
    have elen : ((x.take (x.length - a.toNat)).length : Int) = ((x.length - a.toNat : Nat) : Int) := by rw [List.length_take]; omega
    refine g_iload_n dX9_remove_0 rfl ?_
    refine z_if_ge (tgt := 6) dX9_remove_1 (by decide) (by omega) (fun c1 => ?_) (fun c1 => absurd c1 (by omega))
    refine g_aload_n dX9_remove_6 rfl ?_
    refine g_iload_n dX9_remove_7 rfl ?_
    refine g_aload_n dX9_remove_8 rfl ?_
    refine z_getf fl_X9_140 dX9_remove_9 m_d rfl ?_
    refine z_icmp_le (tgt := 19) dX9_remove_12 (by decide) (by omega) (by omega) (fun c12 => ?_) (fun c12 => ?_)
    · refine g_aload_n dX9_remove_19 rfl ?_
      refine z_getf fl_X9_140 dX9_remove_20 m_d rfl ?_
      refine g_iload_n dX9_remove_23 rfl ?_
      refine z_isub dX9_remove_24 ?_
      refine z_putf fl_X9_140 dX9_remove_25 m_d rfl (Nat.le_of_ble_eq_true rfl) rfl rfl (fun M m_d o => ?_)
      have m_v := (o _ (by omega)).trans m_v
      have m_as := (o _ (by omega)).trans m_as
      have m_pa := (o _ (by omega)).trans m_pa
      have h := h.by_ (o _ (by omega))
      have hm := hm.by_ (o _ (by omega))
      have hg := hg.by_ (o _ (by omega))
      have m_to := (o _ (by omega)).trans m_to
      have m_fo := (o _ (by omega)).trans m_fo
      have fr : Off M0 M d (d + 9) := fun x hx => (o x (by omega)).trans (fr x hx)
      refine g_aload_n dX9_remove_28 rfl ?_
      refine z_getf fl_X9_140 dX9_remove_29 m_d rfl ?_
      exact g_ireturn dX9_remove_32 rfl (Nat.le_of_ble_eq_true rfl) (Nat.le_of_ble_eq_true rfl) ⟨rfl, by rw [show ((x.length - a.toNat : Nat) : Int) = ((x.length : Int) - a) by omega], ⟨_, _, e, _, _, _, _, _, _, _, _, _, by rw [elen, show ((x.length - a.toNat : Nat) : Int) = ((x.length : Int) - a) by omega]; exact m_d, m_v, hf, hG, ⟨_, m_as⟩, m_pa, hh, h2 M h, fun y hy => hx y (List.mem_of_mem_take hy), hm, hg, ⟨_, m_to⟩, ⟨_, m_fo⟩⟩, fr⟩
    · refine z_iconst dX9_remove_15 ?_
      refine g_goto (tgt := 25) dX9_remove_16 (by decide) ?_
      refine z_putf fl_X9_140 dX9_remove_25 m_d rfl (Nat.le_of_ble_eq_true rfl) rfl rfl (fun M m_d o => ?_)
      have m_v := (o _ (by omega)).trans m_v
      have m_as := (o _ (by omega)).trans m_as
      have m_pa := (o _ (by omega)).trans m_pa
      have h := h.by_ (o _ (by omega))
      have hm := hm.by_ (o _ (by omega))
      have hg := hg.by_ (o _ (by omega))
      have m_to := (o _ (by omega)).trans m_to
      have m_fo := (o _ (by omega)).trans m_fo
      have fr : Off M0 M d (d + 9) := fun x hx => (o x (by omega)).trans (fr x hx)
      refine g_aload_n dX9_remove_28 rfl ?_
      refine z_getf fl_X9_140 dX9_remove_29 m_d rfl ?_
      exact g_ireturn dX9_remove_32 rfl (Nat.le_of_ble_eq_true rfl) (Nat.le_of_ble_eq_true rfl) ⟨rfl, by rw [show ((x.length - a.toNat : Nat) : Int) = 0 by omega], ⟨_, _, e, _, _, _, _, _, _, _, _, _, by rw [elen, show ((x.length - a.toNat : Nat) : Int) = 0 by omega]; exact m_d, m_v, hf, hG, ⟨_, m_as⟩, m_pa, hh, h2 M h, fun y hy => hx y (List.mem_of_mem_take hy), hm, hg, ⟨_, m_to⟩, ⟨_, m_fo⟩⟩, fr⟩
set_option maxHeartbeats 1000000 in
theorem k_codeByte {M0 : pM} {z d : Nat} {k : kk} {a : Int} (hR : RM M0 d k) (h_a : -2147483648 ≤ a ∧ a < 2147483648) : RK I_X9_codeByte yX9_codeByte d [vI a] M0 z (oCodeByte a k) := by
  obtain ⟨σ, hs, x⟩ := k
  obtain ⟨g, gp, e, co, ec, cd, wr, tc, mo, tk, fm, ex, m_d, m_v, hf, hG, ⟨ga, m_as⟩, m_pa, hh, h, hx, hm, hg, ⟨gt, m_to⟩, ⟨gf, m_fo⟩⟩ := id hR
  try dsimp only at m_d hf hG hh h hx
  obtain ⟨⟨f0, f1, f2, f3⟩, hv, hvr⟩ := id hf
  obtain ⟨⟨r5, r6, r7, r8, r9⟩, ⟨l1, l2, l3⟩, hcb, hab, hrb⟩ := id hvr
  have hS : okS (g 0) (g 1) (g 2) (g 3) := by rw [f0, f1, f2, f3]; exact hG.1
  have hxl := h.len
  have hl4 := hh.1
  have fr : Off M0 M0 d (d + 9) := Off.rf
  unfold oCodeByte
  try dsimp only
  refine C.intro (pl := [some (.ref d), some (vI a)]) pn_X9 rfl (fun h => absurd h (by decide)) rfl (Nat.le_of_ble_eq_true rfl) rfl ?_
  by_cases hc : 0 ≤ a ∧ a < (sC σ).length
  · rw [if_pos hc]
    have hv1 := hcb a.toNat (by omega)
    refine g_iload_n dX9_codeByte_0 rfl ?_
    refine z_iconst dX9_codeByte_1 ?_
    refine g_aload_n dX9_codeByte_2 rfl ?_
    refine z_getf fl_X9_7 dX9_codeByte_3 m_d rfl ?_
    refine z_iconst dX9_codeByte_6 ?_
    refine z_iaload (j := 5) dX9_codeByte_7 m_v rfl (by omega) (by omega) ?_
    refine z_iconst dX9_codeByte_8 ?_
    refine z_isub dX9_codeByte_9 ?_
    refine z_callSR dX9_codeByte_10 lm_X9_130 lk_X9_in (r_in_t (by omega) (by omega) (by omega) (by omega)) rfl rfl (mkRoom rfl rfl) (Nat.le_of_ble_eq_true rfl) (Nat.le_of_ble_eq_true rfl) (Nat.le_of_ble_eq_true rfl) ?_
    refine z_if_eq (tgt := 29) dX9_codeByte_13 (by decide) (by omega) (fun c13 => absurd c13 (by omega)) (fun c13 => ?_)
    refine g_aload_n dX9_codeByte_16 rfl ?_
    refine z_getf fl_X9_7 dX9_codeByte_17 m_d rfl ?_
    refine z_sipush dX9_codeByte_20 (by decide +kernel) ?_
    refine g_iload_n dX9_codeByte_23 rfl ?_
    refine z_iadd dX9_codeByte_24 ?_
    refine z_iaload (j := 24260 + a.toNat) dX9_codeByte_25 m_v (by omega) (by omega) (by omega) ?_
    refine g_goto (tgt := 30) dX9_codeByte_26 (by decide) ?_
    exact g_ireturn dX9_codeByte_30 rfl (Nat.le_of_ble_eq_true rfl) (Nat.le_of_ble_eq_true rfl) ⟨rfl, by rw [hv1], hR, fr⟩
  · rw [if_neg hc]
    refine g_iload_n dX9_codeByte_0 rfl ?_
    refine z_iconst dX9_codeByte_1 ?_
    refine g_aload_n dX9_codeByte_2 rfl ?_
    refine z_getf fl_X9_7 dX9_codeByte_3 m_d rfl ?_
    refine z_iconst dX9_codeByte_6 ?_
    refine z_iaload (j := 5) dX9_codeByte_7 m_v rfl (by omega) (by omega) ?_
    refine z_iconst dX9_codeByte_8 ?_
    refine z_isub dX9_codeByte_9 ?_
    refine z_callSR dX9_codeByte_10 lm_X9_130 lk_X9_in (r_in_f (by omega) (by omega) (by omega) (by omega)) rfl rfl (mkRoom rfl rfl) (Nat.le_of_ble_eq_true rfl) (Nat.le_of_ble_eq_true rfl) (Nat.le_of_ble_eq_true rfl) ?_
    refine z_if_eq (tgt := 29) dX9_codeByte_13 (by decide) (by omega) (fun c13 => ?_) (fun c13 => absurd c13 (by omega))
    refine z_iconst dX9_codeByte_29 ?_
    exact g_ireturn dX9_codeByte_30 rfl (Nat.le_of_ble_eq_true rfl) (Nat.le_of_ble_eq_true rfl) ⟨rfl, rfl, hR, fr⟩
set_option maxHeartbeats 1000000 in
theorem k_decoded {M0 : pM} {z d : Nat} {k : kk} {a : Int} (hR : RM M0 d k) (h_a : -2147483648 ≤ a ∧ a < 2147483648) : RK I_X9_decoded yX9_decoded d [vI a] M0 z (oDecoded a k) := by
  obtain ⟨σ, hs, x⟩ := k
  obtain ⟨g, gp, e, co, ec, cd, wr, tc, mo, tk, fm, ex, m_d, m_v, hf, hG, ⟨ga, m_as⟩, m_pa, hh, h, hx, hm, hg, ⟨gt, m_to⟩, ⟨gf, m_fo⟩⟩ := id hR
  try dsimp only at m_d hf hG hh h hx
  obtain ⟨⟨f0, f1, f2, f3⟩, hv, hvr⟩ := id hf
  obtain ⟨⟨r5, r6, r7, r8, r9⟩, ⟨l1, l2, l3⟩, hcb, hab, hrb⟩ := id hvr
  have hS : okS (g 0) (g 1) (g 2) (g 3) := by rw [f0, f1, f2, f3]; exact hG.1
  have hxl := h.len
  have hl4 := hh.1
  have fr : Off M0 M0 d (d + 9) := Off.rf
  unfold oDecoded
  try dsimp only
  refine C.intro (pl := [some (.ref d), some (vI a)]) pn_X9 rfl (fun h => absurd h (by decide)) rfl (Nat.le_of_ble_eq_true rfl) rfl ?_
  by_cases hc : a < 0
  · rw [if_pos hc]
    refine g_iload_n dX9_decoded_0 rfl ?_
    refine z_if_ge (tgt := 8) dX9_decoded_1 (by decide) (by omega) (fun c1 => absurd c1 (by omega)) (fun c1 => ?_)
    refine z_iconst dX9_decoded_4 ?_
    refine g_goto (tgt := 34) dX9_decoded_5 (by decide) ?_
    exact g_ireturn dX9_decoded_34 rfl (Nat.le_of_ble_eq_true rfl) (Nat.le_of_ble_eq_true rfl) ⟨rfl, rfl, hR, fr⟩
  · rw [if_neg hc]
    by_cases hl : a < (sR σ).length
    · rw [if_pos hl]
      have hv1 := hrb a.toNat (by omega)
      refine g_iload_n dX9_decoded_0 rfl ?_
      refine z_if_ge (tgt := 8) dX9_decoded_1 (by decide) (by omega) (fun c1 => ?_) (fun c1 => absurd c1 (by omega))
      refine g_iload_n dX9_decoded_8 rfl ?_
      refine g_aload_n dX9_decoded_9 rfl ?_
      refine z_getf fl_X9_7 dX9_decoded_10 m_d rfl ?_
      refine z_bipush dX9_decoded_13 (by decide +kernel) ?_
      refine z_iaload (j := 9) dX9_decoded_15 m_v rfl (by omega) (by omega) ?_
      refine z_icmp_ge (tgt := 32) dX9_decoded_16 (by decide) (by omega) (by omega) (fun c16 => absurd c16 (by omega)) (fun c16 => ?_)
      refine g_aload_n dX9_decoded_19 rfl ?_
      refine z_getf fl_X9_7 dX9_decoded_20 m_d rfl ?_
      refine z_sipush dX9_decoded_23 (by decide +kernel) ?_
      refine g_iload_n dX9_decoded_26 rfl ?_
      refine z_iadd dX9_decoded_27 ?_
      refine z_iaload (j := 25480 + a.toNat) dX9_decoded_28 m_v (by omega) (by omega) (by omega) ?_
      refine g_goto (tgt := 34) dX9_decoded_29 (by decide) ?_
      exact g_ireturn dX9_decoded_34 rfl (Nat.le_of_ble_eq_true rfl) (Nat.le_of_ble_eq_true rfl) ⟨rfl, by rw [hv1], hR, fr⟩
    · rw [if_neg hl]
      refine g_iload_n dX9_decoded_0 rfl ?_
      refine z_if_ge (tgt := 8) dX9_decoded_1 (by decide) (by omega) (fun c1 => ?_) (fun c1 => absurd c1 (by omega))
      refine g_iload_n dX9_decoded_8 rfl ?_
      refine g_aload_n dX9_decoded_9 rfl ?_
      refine z_getf fl_X9_7 dX9_decoded_10 m_d rfl ?_
      refine z_bipush dX9_decoded_13 (by decide +kernel) ?_
      refine z_iaload (j := 9) dX9_decoded_15 m_v rfl (by omega) (by omega) ?_
      refine z_icmp_ge (tgt := 32) dX9_decoded_16 (by decide) (by omega) (by omega) (fun c16 => ?_) (fun c16 => absurd c16 (by omega))
      refine z_bipush dX9_decoded_32 (by decide +kernel) ?_
      exact g_ireturn dX9_decoded_34 rfl (Nat.le_of_ble_eq_true rfl) (Nat.le_of_ble_eq_true rfl) ⟨rfl, rfl, hR, fr⟩
set_option maxHeartbeats 1000000 in
theorem k_lg {M0 : pM} {z d : Nat} {k : kk} {a : Int} {t : Int} (hR : RM M0 d k) (h_a : -2147483648 ≤ a ∧ a < 2147483648) (h_t : -2147483648 ≤ t ∧ t < 2147483648) : RK I_X9_lg yX9_lg d [vI a, vI t] M0 z (oLg a t k) := by
  obtain ⟨σ, hs, x⟩ := k
  obtain ⟨g, gp, e, co, ec, cd, wr, tc, mo, tk, fm, ex, m_d, m_v, hf, hG, ⟨ga, m_as⟩, m_pa, hh, h, hx, hm, hg, ⟨gt, m_to⟩, ⟨gf, m_fo⟩⟩ := id hR
  try dsimp only at m_d hf hG hh h hx
  obtain ⟨⟨f0, f1, f2, f3⟩, hv, hvr⟩ := id hf
  obtain ⟨⟨r5, r6, r7, r8, r9⟩, ⟨l1, l2, l3⟩, hcb, hab, hrb⟩ := id hvr
  have hS : okS (g 0) (g 1) (g 2) (g 3) := by rw [f0, f1, f2, f3]; exact hG.1
  have hxl := h.len
  have hl4 := hh.1
  have fr : Off M0 M0 d (d + 9) := Off.rf
  unfold oLg
  try dsimp only
  refine C.intro (pl := [some (.ref d), some (vI a), some (vI t)]) pn_X9 rfl (fun h => absurd h (by decide)) rfl (Nat.le_of_ble_eq_true rfl) rfl ?_
  by_cases hc : 1 ≤ t ∧ t ≤ 1000000
  · by_cases hc2 : 1 ≤ a ∧ a ≤ t
    · rw [if_pos (by omega)]
      refine g_iload_n dX9_lg_0 rfl ?_
      refine z_iconst dX9_lg_1 ?_
      refine z_ldc (1000000) dX9_lg_2 kc_X9_209 rfl ?_
      refine z_callSR dX9_lg_4 lm_X9_130 lk_X9_in (r_in_t (by omega) (by omega) (by omega) (by omega)) rfl rfl (mkRoom rfl rfl) (Nat.le_of_ble_eq_true rfl) (Nat.le_of_ble_eq_true rfl) (Nat.le_of_ble_eq_true rfl) ?_
      refine z_if_eq (tgt := 31) dX9_lg_7 (by decide) (by omega) (fun c7 => absurd c7 (by omega)) (fun c7 => ?_)
      refine g_iload_n dX9_lg_10 rfl ?_
      refine z_iconst dX9_lg_11 ?_
      refine g_iload_n dX9_lg_12 rfl ?_
      refine z_callSR dX9_lg_13 lm_X9_130 lk_X9_in (r_in_t (by omega) (by omega) (by omega) (by omega)) rfl rfl (mkRoom rfl rfl) (Nat.le_of_ble_eq_true rfl) (Nat.le_of_ble_eq_true rfl) (Nat.le_of_ble_eq_true rfl) ?_
      refine z_if_eq (tgt := 31) dX9_lg_16 (by decide) (by omega) (fun c16 => absurd c16 (by omega)) (fun c16 => ?_)
      refine g_iload_n dX9_lg_19 rfl ?_
      refine z_callSR dX9_lg_20 lm_X9_96 lk_X9_log (r_log (by omega)) rfl rfl (mkRoom rfl rfl) (Nat.le_of_ble_eq_true rfl) (Nat.le_of_ble_eq_true rfl) (Nat.le_of_ble_eq_true rfl) ?_
      refine g_iload_n dX9_lg_23 rfl ?_
      refine z_callSR dX9_lg_24 lm_X9_96 lk_X9_log (r_log (by omega)) rfl rfl (mkRoom rfl rfl) (Nat.le_of_ble_eq_true rfl) (Nat.le_of_ble_eq_true rfl) (Nat.le_of_ble_eq_true rfl) ?_
      refine z_isub dX9_lg_27 ?_
      refine g_goto (tgt := 32) dX9_lg_28 (by decide) ?_
      exact g_ireturn dX9_lg_32 rfl (Nat.le_of_ble_eq_true rfl) (Nat.le_of_ble_eq_true rfl) ⟨rfl, rfl, hR, fr⟩
    · rw [if_neg (by omega)]
      refine g_iload_n dX9_lg_0 rfl ?_
      refine z_iconst dX9_lg_1 ?_
      refine z_ldc (1000000) dX9_lg_2 kc_X9_209 rfl ?_
      refine z_callSR dX9_lg_4 lm_X9_130 lk_X9_in (r_in_t (by omega) (by omega) (by omega) (by omega)) rfl rfl (mkRoom rfl rfl) (Nat.le_of_ble_eq_true rfl) (Nat.le_of_ble_eq_true rfl) (Nat.le_of_ble_eq_true rfl) ?_
      refine z_if_eq (tgt := 31) dX9_lg_7 (by decide) (by omega) (fun c7 => absurd c7 (by omega)) (fun c7 => ?_)
      refine g_iload_n dX9_lg_10 rfl ?_
      refine z_iconst dX9_lg_11 ?_
      refine g_iload_n dX9_lg_12 rfl ?_
      refine z_callSR dX9_lg_13 lm_X9_130 lk_X9_in (r_in_f (by omega) (by omega) (by omega) (by omega)) rfl rfl (mkRoom rfl rfl) (Nat.le_of_ble_eq_true rfl) (Nat.le_of_ble_eq_true rfl) (Nat.le_of_ble_eq_true rfl) ?_
      refine z_if_eq (tgt := 31) dX9_lg_16 (by decide) (by omega) (fun c16 => ?_) (fun c16 => absurd c16 (by omega))
      refine z_iconst dX9_lg_31 ?_
      exact g_ireturn dX9_lg_32 rfl (Nat.le_of_ble_eq_true rfl) (Nat.le_of_ble_eq_true rfl) ⟨rfl, rfl, hR, fr⟩
  · rw [if_neg (by omega)]
    refine g_iload_n dX9_lg_0 rfl ?_
    refine z_iconst dX9_lg_1 ?_
    refine z_ldc (1000000) dX9_lg_2 kc_X9_209 rfl ?_
    refine z_callSR dX9_lg_4 lm_X9_130 lk_X9_in (r_in_f (by omega) (by omega) (by omega) (by omega)) rfl rfl (mkRoom rfl rfl) (Nat.le_of_ble_eq_true rfl) (Nat.le_of_ble_eq_true rfl) (Nat.le_of_ble_eq_true rfl) ?_
    refine z_if_eq (tgt := 31) dX9_lg_7 (by decide) (by omega) (fun c7 => ?_) (fun c7 => absurd c7 (by omega))
    refine z_iconst dX9_lg_31 ?_
    exact g_ireturn dX9_lg_32 rfl (Nat.le_of_ble_eq_true rfl) (Nat.le_of_ble_eq_true rfl) ⟨rfl, rfl, hR, fr⟩
