/-! the reference: asks, damage, history -/
set_option maxHeartbeats 1000000 in
theorem k_count {M0 : pM} {z d : Nat} {k : kk} {a : Int} {s : Int} (hR : RM M0 d k) (h_a : -2147483648 ≤ a ∧ a < 2147483648) (h_s : -2147483648 ≤ s ∧ s < 2147483648) : RK I_X9_count yX9_count d [vI a, vI s] M0 z (oCount a s k) := by
  obtain ⟨σ, hs, x⟩ := k
  obtain ⟨g, gp, e, co, ec, cd, wr, tc, mo, tk, fm, ex, m_d, m_v, hf, hG, ⟨ga, m_as⟩, m_pa, hh, h, hx, hm, hg, ⟨gt, m_to⟩, ⟨gf, m_fo⟩⟩ := id hR
  try dsimp only at m_d hf hG hh h hx
  obtain ⟨⟨f0, f1, f2, f3⟩, hv, hvr⟩ := id hf
  obtain ⟨⟨r5, r6, r7, r8, r9⟩, ⟨l1, l2, l3⟩, hcb, hab, hrb⟩ := id hvr
  have hS : okS (g 0) (g 1) (g 2) (g 3) := by rw [f0, f1, f2, f3]; exact hG.1
  have hxl := h.len
  have hl4 := hh.1
  have fr : Off M0 M0 d (d + 9) := Off.rf
  unfold oCount
  try dsimp only
  refine C.intro (pl := [some (.ref d), some (vI a), some (vI s), none]) pn_X9 rfl (fun h => absurd h (by decide)) rfl (Nat.le_of_ble_eq_true rfl) rfl ?_
  by_cases hc : (0 ≤ a ∧ a ≤ 3) ∧ 0 ≤ s ∧ s ≤ 95
  · rw [if_pos hc]
    by_cases hl : (x.length : Int) < a
    · rw [if_pos hl]
      refine g_iload_n dX9_count_0 rfl ?_
      refine z_iconst dX9_count_1 ?_
      refine z_iconst dX9_count_2 ?_
      refine z_callSR dX9_count_3 lm_X9_130 lk_X9_in (r_in_t (by omega) (by omega) (by omega) (by omega)) rfl rfl (mkRoom rfl rfl) (Nat.le_of_ble_eq_true rfl) (Nat.le_of_ble_eq_true rfl) (Nat.le_of_ble_eq_true rfl) ?_
      refine z_if_eq (tgt := 19) dX9_count_6 (by decide) (by omega) (fun c6 => absurd c6 (by omega)) (fun c6 => ?_)
      refine g_iload_n dX9_count_9 rfl ?_
      refine z_iconst dX9_count_10 ?_
      refine z_bipush dX9_count_11 (by decide +kernel) ?_
      refine z_callSR dX9_count_13 lm_X9_130 lk_X9_in (r_in_t (by omega) (by omega) (by omega) (by omega)) rfl rfl (mkRoom rfl rfl) (Nat.le_of_ble_eq_true rfl) (Nat.le_of_ble_eq_true rfl) (Nat.le_of_ble_eq_true rfl) ?_
      refine z_if_ne (tgt := 21) dX9_count_16 (by decide) (by omega) (fun c16 => ?_) (fun c16 => absurd c16 (by omega))
      refine g_iload_n dX9_count_21 rfl ?_
      refine g_aload_n dX9_count_22 rfl ?_
      refine z_getf fl_X9_140 dX9_count_23 m_d rfl ?_
      refine z_icmp_le (tgt := 33) dX9_count_26 (by decide) (by omega) (by omega) (fun c26 => absurd c26 (by omega)) (fun c26 => ?_)
      refine z_iconst dX9_count_29 ?_
      refine g_goto (tgt := 46) dX9_count_30 (by decide) ?_
      refine g_istore_n dX9_count_46 rfl (Nat.le_of_ble_eq_true rfl) ?_
      refine g_iload_n dX9_count_47 rfl ?_
      refine z_if_ge (tgt := 56) dX9_count_48 (by decide) (by omega) (fun c48 => absurd c48 (by omega)) (fun c48 => ?_)
      refine z_bipush dX9_count_51 (by decide +kernel) ?_
      refine g_goto (tgt := 62) dX9_count_53 (by decide) ?_
      exact g_ireturn dX9_count_62 rfl (Nat.le_of_ble_eq_true rfl) (Nat.le_of_ble_eq_true rfl) ⟨rfl, rfl, hR, fr⟩
    · rw [if_neg hl]
      rcases fnd_cases (sT σ) (ky x x.length a.toNat) with ⟨hfd, -⟩ | ⟨i, hi, hfd, -⟩
      · rw [cnO_no (by omega)]
        refine g_iload_n dX9_count_0 rfl ?_
        refine z_iconst dX9_count_1 ?_
        refine z_iconst dX9_count_2 ?_
        refine z_callSR dX9_count_3 lm_X9_130 lk_X9_in (r_in_t (by omega) (by omega) (by omega) (by omega)) rfl rfl (mkRoom rfl rfl) (Nat.le_of_ble_eq_true rfl) (Nat.le_of_ble_eq_true rfl) (Nat.le_of_ble_eq_true rfl) ?_
        refine z_if_eq (tgt := 19) dX9_count_6 (by decide) (by omega) (fun c6 => absurd c6 (by omega)) (fun c6 => ?_)
        refine g_iload_n dX9_count_9 rfl ?_
        refine z_iconst dX9_count_10 ?_
        refine z_bipush dX9_count_11 (by decide +kernel) ?_
        refine z_callSR dX9_count_13 lm_X9_130 lk_X9_in (r_in_t (by omega) (by omega) (by omega) (by omega)) rfl rfl (mkRoom rfl rfl) (Nat.le_of_ble_eq_true rfl) (Nat.le_of_ble_eq_true rfl) (Nat.le_of_ble_eq_true rfl) ?_
        refine z_if_ne (tgt := 21) dX9_count_16 (by decide) (by omega) (fun c16 => ?_) (fun c16 => absurd c16 (by omega))
        refine g_iload_n dX9_count_21 rfl ?_
        refine g_aload_n dX9_count_22 rfl ?_
        refine z_getf fl_X9_140 dX9_count_23 m_d rfl ?_
        refine z_icmp_le (tgt := 33) dX9_count_26 (by decide) (by omega) (by omega) (fun c26 => ?_) (fun c26 => absurd c26 (by omega))
        refine g_aload_n dX9_count_33 rfl ?_
        refine g_aload_n dX9_count_34 rfl ?_
        refine z_getf fl_X9_20 dX9_count_35 m_d rfl ?_
        refine g_aload_n dX9_count_38 rfl ?_
        refine z_getf fl_X9_140 dX9_count_39 m_d rfl ?_
        refine g_iload_n dX9_count_42 rfl ?_
        refine G.top (v' := vI ((a.toNat : Nat) : Int)) (by rw [Int.toNat_of_nonneg (by omega)]) ?_
        refine z_callVR dX9_count_43 lm_X9_57 lk_X9_find ((r_find (j := a.toNat) m_d m_v hv h hx (Nat.le_refl _) (by omega) (by omega)).eq (by rw [hfd])) rfl rfl m_d rfl (mkRoom rfl rfl) (Nat.le_of_ble_eq_true rfl) (Nat.le_of_ble_eq_true rfl) (Nat.le_of_ble_eq_true rfl) ?_
        refine g_istore_n dX9_count_46 rfl (Nat.le_of_ble_eq_true rfl) ?_
        refine g_iload_n dX9_count_47 rfl ?_
        refine z_if_ge (tgt := 56) dX9_count_48 (by decide) (by omega) (fun c48 => absurd c48 (by omega)) (fun c48 => ?_)
        refine z_bipush dX9_count_51 (by decide +kernel) ?_
        refine g_goto (tgt := 62) dX9_count_53 (by decide) ?_
        exact g_ireturn dX9_count_62 rfl (Nat.le_of_ble_eq_true rfl) (Nat.le_of_ble_eq_true rfl) ⟨rfl, rfl, hR, fr⟩
      · rw [cnO_at hfd hi]
        have hTl := hG.2.1.1
        obtain ⟨-, w1⟩ := hv.2.2 i hi
        refine g_iload_n dX9_count_0 rfl ?_
        refine z_iconst dX9_count_1 ?_
        refine z_iconst dX9_count_2 ?_
        refine z_callSR dX9_count_3 lm_X9_130 lk_X9_in (r_in_t (by omega) (by omega) (by omega) (by omega)) rfl rfl (mkRoom rfl rfl) (Nat.le_of_ble_eq_true rfl) (Nat.le_of_ble_eq_true rfl) (Nat.le_of_ble_eq_true rfl) ?_
        refine z_if_eq (tgt := 19) dX9_count_6 (by decide) (by omega) (fun c6 => absurd c6 (by omega)) (fun c6 => ?_)
        refine g_iload_n dX9_count_9 rfl ?_
        refine z_iconst dX9_count_10 ?_
        refine z_bipush dX9_count_11 (by decide +kernel) ?_
        refine z_callSR dX9_count_13 lm_X9_130 lk_X9_in (r_in_t (by omega) (by omega) (by omega) (by omega)) rfl rfl (mkRoom rfl rfl) (Nat.le_of_ble_eq_true rfl) (Nat.le_of_ble_eq_true rfl) (Nat.le_of_ble_eq_true rfl) ?_
        refine z_if_ne (tgt := 21) dX9_count_16 (by decide) (by omega) (fun c16 => ?_) (fun c16 => absurd c16 (by omega))
        refine g_iload_n dX9_count_21 rfl ?_
        refine g_aload_n dX9_count_22 rfl ?_
        refine z_getf fl_X9_140 dX9_count_23 m_d rfl ?_
        refine z_icmp_le (tgt := 33) dX9_count_26 (by decide) (by omega) (by omega) (fun c26 => ?_) (fun c26 => absurd c26 (by omega))
        refine g_aload_n dX9_count_33 rfl ?_
        refine g_aload_n dX9_count_34 rfl ?_
        refine z_getf fl_X9_20 dX9_count_35 m_d rfl ?_
        refine g_aload_n dX9_count_38 rfl ?_
        refine z_getf fl_X9_140 dX9_count_39 m_d rfl ?_
        refine g_iload_n dX9_count_42 rfl ?_
        refine G.top (v' := vI ((a.toNat : Nat) : Int)) (by rw [Int.toNat_of_nonneg (by omega)]) ?_
        refine z_callVR dX9_count_43 lm_X9_57 lk_X9_find ((r_find (j := a.toNat) m_d m_v hv h hx (Nat.le_refl _) (by omega) (by omega)).eq (by rw [hfd])) rfl rfl m_d rfl (mkRoom rfl rfl) (Nat.le_of_ble_eq_true rfl) (Nat.le_of_ble_eq_true rfl) (Nat.le_of_ble_eq_true rfl) ?_
        refine g_istore_n dX9_count_46 rfl (Nat.le_of_ble_eq_true rfl) ?_
        refine g_iload_n dX9_count_47 rfl ?_
        refine z_if_ge (tgt := 56) dX9_count_48 (by decide) (by omega) (fun c48 => ?_) (fun c48 => absurd c48 (by omega))
        refine g_aload_n dX9_count_56 rfl ?_
        refine g_iload_n dX9_count_57 rfl ?_
        refine g_iload_n dX9_count_58 rfl ?_
        refine G.top (v' := vI ((s.toNat : Nat) : Int)) (by rw [Int.toNat_of_nonneg (by omega)]) ?_
        refine z_callVR dX9_count_59 lm_X9_49 lk_X9_countAt ((r_countAt (s := s.toNat) m_d m_v (by omega) (by omega)).eq (by rw [w1 _ (by omega)])) rfl rfl m_d rfl (mkRoom rfl rfl) (Nat.le_of_ble_eq_true rfl) (Nat.le_of_ble_eq_true rfl) (Nat.le_of_ble_eq_true rfl) ?_
        exact g_ireturn dX9_count_62 rfl (Nat.le_of_ble_eq_true rfl) (Nat.le_of_ble_eq_true rfl) ⟨rfl, rfl, hR, fr⟩
  · rw [if_neg hc]
    by_cases h0 : 0 ≤ a ∧ a ≤ 3
    · refine g_iload_n dX9_count_0 rfl ?_
      refine z_iconst dX9_count_1 ?_
      refine z_iconst dX9_count_2 ?_
      refine z_callSR dX9_count_3 lm_X9_130 lk_X9_in (r_in_t (by omega) (by omega) (by omega) (by omega)) rfl rfl (mkRoom rfl rfl) (Nat.le_of_ble_eq_true rfl) (Nat.le_of_ble_eq_true rfl) (Nat.le_of_ble_eq_true rfl) ?_
      refine z_if_eq (tgt := 19) dX9_count_6 (by decide) (by omega) (fun c6 => absurd c6 (by omega)) (fun c6 => ?_)
      refine g_iload_n dX9_count_9 rfl ?_
      refine z_iconst dX9_count_10 ?_
      refine z_bipush dX9_count_11 (by decide +kernel) ?_
      refine z_callSR dX9_count_13 lm_X9_130 lk_X9_in (r_in_f (by omega) (by omega) (by omega) (by omega)) rfl rfl (mkRoom rfl rfl) (Nat.le_of_ble_eq_true rfl) (Nat.le_of_ble_eq_true rfl) (Nat.le_of_ble_eq_true rfl) ?_
      refine z_if_ne (tgt := 21) dX9_count_16 (by decide) (by omega) (fun c16 => absurd c16 (by omega)) (fun c16 => ?_)
      refine z_iconst dX9_count_19 ?_
      exact g_ireturn dX9_count_20 rfl (Nat.le_of_ble_eq_true rfl) (Nat.le_of_ble_eq_true rfl) ⟨rfl, rfl, hR, fr⟩
    · refine g_iload_n dX9_count_0 rfl ?_
      refine z_iconst dX9_count_1 ?_
      refine z_iconst dX9_count_2 ?_
      refine z_callSR dX9_count_3 lm_X9_130 lk_X9_in (r_in_f (by omega) (by omega) (by omega) (by omega)) rfl rfl (mkRoom rfl rfl) (Nat.le_of_ble_eq_true rfl) (Nat.le_of_ble_eq_true rfl) (Nat.le_of_ble_eq_true rfl) ?_
      refine z_if_eq (tgt := 19) dX9_count_6 (by decide) (by omega) (fun c6 => ?_) (fun c6 => absurd c6 (by omega))
      refine z_iconst dX9_count_19 ?_
      exact g_ireturn dX9_count_20 rfl (Nat.le_of_ble_eq_true rfl) (Nat.le_of_ble_eq_true rfl) ⟨rfl, rfl, hR, fr⟩
set_option maxHeartbeats 1000000 in
theorem k_weight {M0 : pM} {z d : Nat} {k : kk} {a : Int} (hR : RM M0 d k) (h_a : -2147483648 ≤ a ∧ a < 2147483648) : RK I_X9_weight yX9_weight d [vI a] M0 z (oWeight a k) := by
  obtain ⟨σ, hs, x⟩ := k
  obtain ⟨g, gp, e, co, ec, cd, wr, tc, mo, tk, fm, ex, m_d, m_v, hf, hG, ⟨ga, m_as⟩, m_pa, hh, h, hx, hm, hg, ⟨gt, m_to⟩, ⟨gf, m_fo⟩⟩ := id hR
  try dsimp only at m_d hf hG hh h hx
  obtain ⟨⟨f0, f1, f2, f3⟩, hv, hvr⟩ := id hf
  obtain ⟨⟨r5, r6, r7, r8, r9⟩, ⟨l1, l2, l3⟩, hcb, hab, hrb⟩ := id hvr
  have hS : okS (g 0) (g 1) (g 2) (g 3) := by rw [f0, f1, f2, f3]; exact hG.1
  have hxl := h.len
  have hl4 := hh.1
  have fr : Off M0 M0 d (d + 9) := Off.rf
  unfold oWeight
  try dsimp only
  refine C.intro (pl := [some (.ref d), some (vI a), none]) pn_X9 rfl (fun h => absurd h (by decide)) rfl (Nat.le_of_ble_eq_true rfl) rfl ?_
  by_cases hc : 0 ≤ a ∧ a ≤ 3
  · rw [if_pos hc]
    by_cases hl : (x.length : Int) < a
    · rw [if_pos hl]
      refine g_iload_n dX9_weight_0 rfl ?_
      refine z_iconst dX9_weight_1 ?_
      refine z_iconst dX9_weight_2 ?_
      refine z_callSR dX9_weight_3 lm_X9_130 lk_X9_in (r_in_t (by omega) (by omega) (by omega) (by omega)) rfl rfl (mkRoom rfl rfl) (Nat.le_of_ble_eq_true rfl) (Nat.le_of_ble_eq_true rfl) (Nat.le_of_ble_eq_true rfl) ?_
      refine z_if_ne (tgt := 11) dX9_weight_6 (by decide) (by omega) (fun c6 => ?_) (fun c6 => absurd c6 (by omega))
      refine g_iload_n dX9_weight_11 rfl ?_
      refine g_aload_n dX9_weight_12 rfl ?_
      refine z_getf fl_X9_140 dX9_weight_13 m_d rfl ?_
      refine z_icmp_le (tgt := 23) dX9_weight_16 (by decide) (by omega) (by omega) (fun c16 => absurd c16 (by omega)) (fun c16 => ?_)
      refine z_iconst dX9_weight_19 ?_
      refine g_goto (tgt := 36) dX9_weight_20 (by decide) ?_
      refine g_istore_n dX9_weight_36 rfl (Nat.le_of_ble_eq_true rfl) ?_
      refine g_iload_n dX9_weight_37 rfl ?_
      refine z_if_ge (tgt := 46) dX9_weight_38 (by decide) (by omega) (fun c38 => absurd c38 (by omega)) (fun c38 => ?_)
      refine z_bipush dX9_weight_41 (by decide +kernel) ?_
      refine g_goto (tgt := 51) dX9_weight_43 (by decide) ?_
      exact g_ireturn dX9_weight_51 rfl (Nat.le_of_ble_eq_true rfl) (Nat.le_of_ble_eq_true rfl) ⟨rfl, rfl, hR, fr⟩
    · rw [if_neg hl]
      rcases fnd_cases (sT σ) (ky x x.length a.toNat) with ⟨hfd, -⟩ | ⟨i, hi, hfd, -⟩
      · rw [cnO_no (by omega)]
        refine g_iload_n dX9_weight_0 rfl ?_
        refine z_iconst dX9_weight_1 ?_
        refine z_iconst dX9_weight_2 ?_
        refine z_callSR dX9_weight_3 lm_X9_130 lk_X9_in (r_in_t (by omega) (by omega) (by omega) (by omega)) rfl rfl (mkRoom rfl rfl) (Nat.le_of_ble_eq_true rfl) (Nat.le_of_ble_eq_true rfl) (Nat.le_of_ble_eq_true rfl) ?_
        refine z_if_ne (tgt := 11) dX9_weight_6 (by decide) (by omega) (fun c6 => ?_) (fun c6 => absurd c6 (by omega))
        refine g_iload_n dX9_weight_11 rfl ?_
        refine g_aload_n dX9_weight_12 rfl ?_
        refine z_getf fl_X9_140 dX9_weight_13 m_d rfl ?_
        refine z_icmp_le (tgt := 23) dX9_weight_16 (by decide) (by omega) (by omega) (fun c16 => ?_) (fun c16 => absurd c16 (by omega))
        refine g_aload_n dX9_weight_23 rfl ?_
        refine g_aload_n dX9_weight_24 rfl ?_
        refine z_getf fl_X9_20 dX9_weight_25 m_d rfl ?_
        refine g_aload_n dX9_weight_28 rfl ?_
        refine z_getf fl_X9_140 dX9_weight_29 m_d rfl ?_
        refine g_iload_n dX9_weight_32 rfl ?_
        refine G.top (v' := vI ((a.toNat : Nat) : Int)) (by rw [Int.toNat_of_nonneg (by omega)]) ?_
        refine z_callVR dX9_weight_33 lm_X9_57 lk_X9_find ((r_find (j := a.toNat) m_d m_v hv h hx (Nat.le_refl _) (by omega) (by omega)).eq (by rw [hfd])) rfl rfl m_d rfl (mkRoom rfl rfl) (Nat.le_of_ble_eq_true rfl) (Nat.le_of_ble_eq_true rfl) (Nat.le_of_ble_eq_true rfl) ?_
        refine g_istore_n dX9_weight_36 rfl (Nat.le_of_ble_eq_true rfl) ?_
        refine g_iload_n dX9_weight_37 rfl ?_
        refine z_if_ge (tgt := 46) dX9_weight_38 (by decide) (by omega) (fun c38 => absurd c38 (by omega)) (fun c38 => ?_)
        refine z_bipush dX9_weight_41 (by decide +kernel) ?_
        refine g_goto (tgt := 51) dX9_weight_43 (by decide) ?_
        exact g_ireturn dX9_weight_51 rfl (Nat.le_of_ble_eq_true rfl) (Nat.le_of_ble_eq_true rfl) ⟨rfl, rfl, hR, fr⟩
      · rw [cnO_at hfd hi]
        have hTl := hG.2.1.1
        obtain ⟨-, w1⟩ := hv.2.2 i hi
        refine g_iload_n dX9_weight_0 rfl ?_
        refine z_iconst dX9_weight_1 ?_
        refine z_iconst dX9_weight_2 ?_
        refine z_callSR dX9_weight_3 lm_X9_130 lk_X9_in (r_in_t (by omega) (by omega) (by omega) (by omega)) rfl rfl (mkRoom rfl rfl) (Nat.le_of_ble_eq_true rfl) (Nat.le_of_ble_eq_true rfl) (Nat.le_of_ble_eq_true rfl) ?_
        refine z_if_ne (tgt := 11) dX9_weight_6 (by decide) (by omega) (fun c6 => ?_) (fun c6 => absurd c6 (by omega))
        refine g_iload_n dX9_weight_11 rfl ?_
        refine g_aload_n dX9_weight_12 rfl ?_
        refine z_getf fl_X9_140 dX9_weight_13 m_d rfl ?_
        refine z_icmp_le (tgt := 23) dX9_weight_16 (by decide) (by omega) (by omega) (fun c16 => ?_) (fun c16 => absurd c16 (by omega))
        refine g_aload_n dX9_weight_23 rfl ?_
        refine g_aload_n dX9_weight_24 rfl ?_
        refine z_getf fl_X9_20 dX9_weight_25 m_d rfl ?_
        refine g_aload_n dX9_weight_28 rfl ?_
        refine z_getf fl_X9_140 dX9_weight_29 m_d rfl ?_
        refine g_iload_n dX9_weight_32 rfl ?_
        refine G.top (v' := vI ((a.toNat : Nat) : Int)) (by rw [Int.toNat_of_nonneg (by omega)]) ?_
        refine z_callVR dX9_weight_33 lm_X9_57 lk_X9_find ((r_find (j := a.toNat) m_d m_v hv h hx (Nat.le_refl _) (by omega) (by omega)).eq (by rw [hfd])) rfl rfl m_d rfl (mkRoom rfl rfl) (Nat.le_of_ble_eq_true rfl) (Nat.le_of_ble_eq_true rfl) (Nat.le_of_ble_eq_true rfl) ?_
        refine g_istore_n dX9_weight_36 rfl (Nat.le_of_ble_eq_true rfl) ?_
        refine g_iload_n dX9_weight_37 rfl ?_
        refine z_if_ge (tgt := 46) dX9_weight_38 (by decide) (by omega) (fun c38 => ?_) (fun c38 => absurd c38 (by omega))
        refine g_aload_n dX9_weight_46 rfl ?_
        refine g_iload_n dX9_weight_47 rfl ?_
        refine z_callVR dX9_weight_48 lm_X9_53 lk_X9_weightOf ((r_weightOf m_d m_v (by omega)).eq (by rw [show wt (gr g i) = wt (sT σ)[i].2 from sm_cong w1])) rfl rfl m_d rfl (mkRoom rfl rfl) (Nat.le_of_ble_eq_true rfl) (Nat.le_of_ble_eq_true rfl) (Nat.le_of_ble_eq_true rfl) ?_
        exact g_ireturn dX9_weight_51 rfl (Nat.le_of_ble_eq_true rfl) (Nat.le_of_ble_eq_true rfl) ⟨rfl, rfl, hR, fr⟩
  · rw [if_neg hc]
    refine g_iload_n dX9_weight_0 rfl ?_
    refine z_iconst dX9_weight_1 ?_
    refine z_iconst dX9_weight_2 ?_
    refine z_callSR dX9_weight_3 lm_X9_130 lk_X9_in (r_in_f (by omega) (by omega) (by omega) (by omega)) rfl rfl (mkRoom rfl rfl) (Nat.le_of_ble_eq_true rfl) (Nat.le_of_ble_eq_true rfl) (Nat.le_of_ble_eq_true rfl) ?_
    refine z_if_ne (tgt := 11) dX9_weight_6 (by decide) (by omega) (fun c6 => absurd c6 (by omega)) (fun c6 => ?_)
    refine z_iconst dX9_weight_9 ?_
    exact g_ireturn dX9_weight_10 rfl (Nat.le_of_ble_eq_true rfl) (Nat.le_of_ble_eq_true rfl) ⟨rfl, rfl, hR, fr⟩
set_option maxHeartbeats 1000000 in
theorem k_priceOf {M0 : pM} {z d s : Nat} {k : kk} (hR : RM M0 d k) (hsy : s < 96) : CW I_X9_priceOf yX9_priceOf [.ref d, vI (s : Int)] M0 z (fun M' r => r = some (vI (prc k s)) ∧ RM M' d k ∧ Off M0 M' d (d + 9)) := by
  obtain ⟨σ, hs, x⟩ := k
  obtain ⟨g, gp, e, co, ec, cd, wr, tc, mo, tk, fm, ex, m_d, m_v, hf, hG, ⟨ga, m_as⟩, m_pa, hh, h, hx, hm, hg, ⟨gt, m_to⟩, ⟨gf, m_fo⟩⟩ := id hR
  try dsimp only at m_d hf hG hh h hx
  obtain ⟨⟨f0, f1, f2, f3⟩, hv, hvr⟩ := id hf
  obtain ⟨⟨r5, r6, r7, r8, r9⟩, ⟨l1, l2, l3⟩, hcb, hab, hrb⟩ := id hvr
  have hS : okS (g 0) (g 1) (g 2) (g 3) := by rw [f0, f1, f2, f3]; exact hG.1
  have hxl := h.len
  have hl4 := hh.1
  have fr : Off M0 M0 d (d + 9) := Off.rf
  refine C.intro (pl := [some (.ref d), some (vI (s : Int))]) pn_X9 rfl (fun h => absurd h (by decide)) rfl (Nat.le_of_ble_eq_true rfl) rfl ?_
  refine g_aload_n dX9_priceOf_0 rfl ?_
  refine z_iconst dX9_priceOf_1 ?_
  refine z_putf fl_X9_99 dX9_priceOf_2 m_d rfl (Nat.le_of_ble_eq_true rfl) rfl rfl (fun M m_d o => ?_)
  have m_v := (o _ (by omega)).trans m_v
  have m_as := (o _ (by omega)).trans m_as
  have m_pa := (o _ (by omega)).trans m_pa
  have h := h.by_ (o _ (by omega))
  have hm := hm.by_ (o _ (by omega))
  have hg := hg.by_ (o _ (by omega))
  have m_to := (o _ (by omega)).trans m_to
  have m_fo := (o _ (by omega)).trans m_fo
  have fr : Off M0 M d (d + 9) := fun x hx => (o x (by omega)).trans (fr x hx)
  refine g_aload_n dX9_priceOf_5 rfl ?_
  refine g_aload_n dX9_priceOf_6 rfl ?_
  refine z_getf fl_X9_20 dX9_priceOf_7 m_d rfl ?_
  refine g_aload_n dX9_priceOf_10 rfl ?_
  refine z_getf fl_X9_140 dX9_priceOf_11 m_d rfl ?_
  refine g_iload_n dX9_priceOf_14 rfl ?_
  refine z_callVV dX9_priceOf_15 lm_X9_150 lk_X9_codes (r_codes (s := s) (m := 0) (l := 0) m_d m_v hv hG.2.1 hS h (by omega) hx (Nat.le_refl _) hsy hg hm (Or.inl rfl) (by omega) (by omega)) rfl rfl m_d rfl (mkRoom rfl rfl) (Nat.le_of_ble_eq_true rfl) (Nat.le_of_ble_eq_true rfl) (Nat.le_of_ble_eq_true rfl) (fun M r hp => ?_)
  rw [f0, f1] at hp
  obtain ⟨rfl, m_d, hm, ⟨ex2, hg⟩, -, o1⟩ := hp
  rw [show ewf 0 e (route (sT σ) x x.length (sX σ) (sO σ) s).1 = e from if_pos rfl] at m_d hm
  have m_v := (o1 _ (by omega)).trans m_v
  have m_as := (o1 _ (by omega)).trans m_as
  have m_pa := (o1 _ (by omega)).trans m_pa
  have h := h.by_ (o1 _ (by omega))
  have m_to := (o1 _ (by omega)).trans m_to
  have m_fo := (o1 _ (by omega)).trans m_fo
  have fr : Off M0 M d (d + 9) := fun x hx => (o1 x (by omega)).trans (fr x hx)
  refine g_aload_n dX9_priceOf_18 rfl ?_
  refine z_getf fl_X9_93 dX9_priceOf_19 m_d rfl ?_
  exact g_ireturn dX9_priceOf_22 rfl (Nat.le_of_ble_eq_true rfl) (Nat.le_of_ble_eq_true rfl) ⟨rfl, rfl, ⟨_, _, e, _, _, _, _, _, _, _, _, _, m_d, m_v, hf, hG, ⟨_, m_as⟩, m_pa, hh, h, hx, hm, hg, ⟨_, m_to⟩, ⟨_, m_fo⟩⟩, fr⟩
set_option maxHeartbeats 1000000 in
theorem k_price {M0 : pM} {z d : Nat} {k : kk} {s : Int} (hR : RM M0 d k) (h_s : -2147483648 ≤ s ∧ s < 2147483648) : RK I_X9_price yX9_price d [vI s] M0 z (oPrice s k) := by
  obtain ⟨g, gp, e, co, ec, cd, wr, tc, mo, tk, fm, ex, m_d, -⟩ := id hR
  have fr : Off M0 M0 d (d + 9) := Off.rf
  unfold oPrice
  refine C.intro (pl := [some (.ref d), some (vI s)]) pn_X9 rfl (fun h => absurd h (by decide)) rfl (Nat.le_of_ble_eq_true rfl) rfl ?_
  by_cases hc : 0 ≤ s ∧ s ≤ 95
  · rw [if_pos hc]
    refine g_iload_n dX9_price_0 rfl ?_
    refine z_iconst dX9_price_1 ?_
    refine z_bipush dX9_price_2 (by decide +kernel) ?_
    refine z_callSR dX9_price_4 lm_X9_130 lk_X9_in (r_in_t (by omega) (by omega) (by omega) (by omega)) rfl rfl (mkRoom rfl rfl) (Nat.le_of_ble_eq_true rfl) (Nat.le_of_ble_eq_true rfl) (Nat.le_of_ble_eq_true rfl) ?_
    refine z_if_eq (tgt := 18) dX9_price_7 (by decide) (by omega) (fun c7 => absurd c7 (by omega)) (fun c7 => ?_)
    refine g_aload_n dX9_price_10 rfl ?_
    refine g_iload_n dX9_price_11 rfl ?_
    refine G.top (v' := vI ((s.toNat : Nat) : Int)) (by rw [Int.toNat_of_nonneg (by omega)]) ?_
    refine z_callVV dX9_price_12 lm_X9_153 lk_X9_priceOf (k_priceOf (s := s.toNat) hR (by omega)) rfl rfl m_d rfl (mkRoom rfl rfl) (Nat.le_of_ble_eq_true rfl) (Nat.le_of_ble_eq_true rfl) (Nat.le_of_ble_eq_true rfl) (fun M r hp => ?_)
    obtain ⟨rfl, hR, o1⟩ := hp
    have fr := fr.tr o1
    refine g_goto (tgt := 19) dX9_price_15 (by decide) ?_
    exact g_ireturn dX9_price_19 rfl (Nat.le_of_ble_eq_true rfl) (Nat.le_of_ble_eq_true rfl) ⟨rfl, rfl, hR, fr⟩
  · rw [if_neg hc]
    refine g_iload_n dX9_price_0 rfl ?_
    refine z_iconst dX9_price_1 ?_
    refine z_bipush dX9_price_2 (by decide +kernel) ?_
    refine z_callSR dX9_price_4 lm_X9_130 lk_X9_in (r_in_f (by omega) (by omega) (by omega) (by omega)) rfl rfl (mkRoom rfl rfl) (Nat.le_of_ble_eq_true rfl) (Nat.le_of_ble_eq_true rfl) (Nat.le_of_ble_eq_true rfl) ?_
    refine z_if_eq (tgt := 18) dX9_price_7 (by decide) (by omega) (fun c7 => ?_) (fun c7 => absurd c7 (by omega))
    refine z_iconst dX9_price_18 ?_
    exact g_ireturn dX9_price_19 rfl (Nat.le_of_ble_eq_true rfl) (Nat.le_of_ble_eq_true rfl) ⟨rfl, rfl, hR, fr⟩
theorem prc_rng {M : pM} {d : Nat} {k : kk} (hR : RM M d k) {s : Nat} (hs : s < 96) : -2147483648 ≤ prc k s ∧ prc k s < 2147483648 := by
  obtain ⟨g, gp, e, co, ec, cd, wr, tc, mo, tk, fm, ex, m_d, m_v, hf, hG, -, -, -, h, hx, -⟩ := hR
  have hro := route_ok (xs := k.2.2) (n := k.2.2.length) (s := s) hG.2.1 hG.1 hs
  have := cst_rng hro.1 hro.2
  unfold prc
  omega
set_option maxHeartbeats 1000000 in
theorem k_guess {M0 : pM} {z d : Nat} {k : kk}  (hR : RM M0 d k)  : RK I_X9_guess yX9_guess d [] M0 z (oGuess k) := by
  have fr : Off M0 M0 d (d + 9) := Off.rf
  refine C.intro (pl := [some (.ref d), none, none, none, none]) pn_X9 rfl (fun h => absurd h (by decide)) rfl (Nat.le_of_ble_eq_true rfl) rfl ?_
  have loop : ∀ (u i : Nat) (M : pM), i + u = 95 → RM M d k → Off M0 M d (d + 9) → ∀ K4 : Option Value, G I_X9_guess 0 0 (fun M' z' r' => z' = z ∧ r' = some (vI (oGuess k).1) ∧ RM M' d (oGuess k).2 ∧ Off M0 M' d (d + 9)) 0 0 10 [some (.ref d), some (vI (bst (prc k) i : Int)), some (vI (prc k (bst (prc k) i))), some (vI ((i : Int) + 1)), K4] [] M z := by
    intro u
    induction u with
    | zero =>
      intro i M hi hR fr K4
      have e : i = 95 := by omega
      subst e
      refine g_iload_n dX9_guess_10 rfl ?_
      refine z_bipush dX9_guess_11 (by decide +kernel) ?_
      refine z_icmp_ge (tgt := 54) dX9_guess_13 (by decide) (by omega) (by omega) (fun c13 => ?_) (fun c13 => absurd c13 (by omega))
      refine g_iload_n dX9_guess_54 rfl ?_
      exact g_ireturn dX9_guess_55 rfl (Nat.le_of_ble_eq_true rfl) (Nat.le_of_ble_eq_true rfl) ⟨rfl, rfl, hR, fr⟩
    | succ u ih =>
      intro i M hi hR fr K4
      have hb := bst_le (prc k) i
      have h1 := prc_rng hR (s := bst (prc k) i) (by omega)
      have h2 := prc_rng hR (s := i + 1) (by omega)
      have ih2 := fun M2 hR2 fr2 => ih (i + 1) M2 (by omega) hR2 fr2
      have m_d0 := hR
      obtain ⟨g, gp, e, co, ec, cd, wr, tc, mo, tk, fm, ex, m_d, -⟩ := m_d0
      have e1 : (((i + 1 : Nat) : Int) + 1) = (i : Int) + 1 + 1 := by omega
      rw [bst, e1] at ih2
      refine g_iload_n dX9_guess_10 rfl ?_
      refine z_bipush dX9_guess_11 (by decide +kernel) ?_
      refine z_icmp_ge (tgt := 54) dX9_guess_13 (by decide) (by omega) (by omega) (fun c13 => absurd c13 (by omega)) (fun c13 => ?_)
      refine g_aload_n dX9_guess_16 rfl ?_
      refine g_iload_n dX9_guess_17 rfl ?_
      refine G.top (v' := vI ((i + 1 : Nat) : Int)) (by rw [show ((i : Int) + 1) = ((i + 1 : Nat) : Int) by omega]) ?_
      refine z_callVV dX9_guess_18 lm_X9_153 lk_X9_priceOf (k_priceOf (s := (i + 1)) hR (by omega)) rfl rfl m_d rfl (mkRoom rfl rfl) (Nat.le_of_ble_eq_true rfl) (Nat.le_of_ble_eq_true rfl) (Nat.le_of_ble_eq_true rfl) (fun M r hp => ?_)
      obtain ⟨rfl, hR, o1⟩ := hp
      have fr := fr.tr o1
      refine g_istore dX9_guess_21 (Nat.le_of_ble_eq_true rfl) ?_
      refine g_iload dX9_guess_23 rfl ?_
      refine g_iload_n dX9_guess_25 rfl ?_
      refine z_icmp_ge (tgt := 33) dX9_guess_26 (by decide) (by omega) (by omega) (fun c26 => ?_) (fun c26 => ?_)
      · refine g_iload_n dX9_guess_33 rfl ?_
        refine g_istore_n dX9_guess_34 rfl (Nat.le_of_ble_eq_true rfl) ?_
        refine g_iload dX9_guess_35 rfl ?_
        refine g_iload_n dX9_guess_37 rfl ?_
        refine z_icmp_ge (tgt := 46) dX9_guess_38 (by decide) (by omega) (by omega) (fun c38 => ?_) (fun c38 => ?_)
        · refine g_iload_n dX9_guess_46 rfl ?_
          refine g_istore_n dX9_guess_47 rfl (Nat.le_of_ble_eq_true rfl) ?_
          refine z_iinc dX9_guess_48 rfl (Nat.le_of_ble_eq_true rfl) ?_
          refine g_goto (tgt := 10) dX9_guess_51 (by decide) ?_
          first
          | (rw [if_pos c26] at ih2; exact ih2 M hR fr _)
          | (rw [if_neg (by omega)] at ih2; exact ih2 M hR fr _)
          | (exfalso; omega)
        · refine g_iload dX9_guess_41 rfl ?_
          refine g_goto (tgt := 47) dX9_guess_43 (by decide) ?_
          refine g_istore_n dX9_guess_47 rfl (Nat.le_of_ble_eq_true rfl) ?_
          refine z_iinc dX9_guess_48 rfl (Nat.le_of_ble_eq_true rfl) ?_
          refine g_goto (tgt := 10) dX9_guess_51 (by decide) ?_
          first
          | (rw [if_pos c26] at ih2; exact ih2 M hR fr _)
          | (rw [if_neg (by omega)] at ih2; exact ih2 M hR fr _)
          | (exfalso; omega)
      · refine g_iload_n dX9_guess_29 rfl ?_
        refine g_goto (tgt := 34) dX9_guess_30 (by decide) ?_
        refine g_istore_n dX9_guess_34 rfl (Nat.le_of_ble_eq_true rfl) ?_
        refine g_iload dX9_guess_35 rfl ?_
        refine g_iload_n dX9_guess_37 rfl ?_
        refine z_icmp_ge (tgt := 46) dX9_guess_38 (by decide) (by omega) (by omega) (fun c38 => ?_) (fun c38 => ?_)
        · refine g_iload_n dX9_guess_46 rfl ?_
          refine g_istore_n dX9_guess_47 rfl (Nat.le_of_ble_eq_true rfl) ?_
          refine z_iinc dX9_guess_48 rfl (Nat.le_of_ble_eq_true rfl) ?_
          refine g_goto (tgt := 10) dX9_guess_51 (by decide) ?_
          first
          | (rw [if_pos c26] at ih2; exact ih2 M hR fr _)
          | (rw [if_neg (by omega)] at ih2; exact ih2 M hR fr _)
          | (exfalso; omega)
        · refine g_iload dX9_guess_41 rfl ?_
          refine g_goto (tgt := 47) dX9_guess_43 (by decide) ?_
          refine g_istore_n dX9_guess_47 rfl (Nat.le_of_ble_eq_true rfl) ?_
          refine z_iinc dX9_guess_48 rfl (Nat.le_of_ble_eq_true rfl) ?_
          refine g_goto (tgt := 10) dX9_guess_51 (by decide) ?_
          first
          | (rw [if_pos c26] at ih2; exact ih2 M hR fr _)
          | (rw [if_neg (by omega)] at ih2; exact ih2 M hR fr _)
          | (exfalso; omega)
  have m_d0 := hR
  obtain ⟨g, gp, e, co, ec, cd, wr, tc, mo, tk, fm, ex, m_d, -⟩ := m_d0
  refine z_iconst dX9_guess_0 ?_
  refine g_istore_n dX9_guess_1 rfl (Nat.le_of_ble_eq_true rfl) ?_
  refine g_aload_n dX9_guess_2 rfl ?_
  refine z_iconst dX9_guess_3 ?_
  refine z_callVV dX9_guess_4 lm_X9_153 lk_X9_priceOf (k_priceOf (s := 0) hR (by omega)) rfl rfl m_d rfl (mkRoom rfl rfl) (Nat.le_of_ble_eq_true rfl) (Nat.le_of_ble_eq_true rfl) (Nat.le_of_ble_eq_true rfl) (fun M r hp => ?_)
  obtain ⟨rfl, hR, o1⟩ := hp
  have fr := fr.tr o1
  refine g_istore_n dX9_guess_7 rfl (Nat.le_of_ble_eq_true rfl) ?_
  refine z_iconst dX9_guess_8 ?_
  refine g_istore_n dX9_guess_9 rfl (Nat.le_of_ble_eq_true rfl) ?_
  exact loop 95 0 M (by omega) hR fr _
set_option maxHeartbeats 1000000 in
theorem k_account {M0 : pM} {z d : Nat} {k : kk} {a : Int} {w : Int} (hR : RM M0 d k) (h_a : -2147483648 ≤ a ∧ a < 2147483648) (h_w : -2147483648 ≤ w ∧ w < 2147483648) : RK I_X9_account yX9_account d [vI a, vI w] M0 z (oAccount a w k) := by
  obtain ⟨σ, hs, x⟩ := k
  obtain ⟨g, gp, e, co, ec, cd, wr, tc, mo, tk, fm, ex, m_d, m_v, hf, hG, ⟨ga, m_as⟩, m_pa, hh, h, hx, hm, hg, ⟨gt, m_to⟩, ⟨gf, m_fo⟩⟩ := id hR
  try dsimp only at m_d hf hG hh h hx
  obtain ⟨⟨f0, f1, f2, f3⟩, hv, hvr⟩ := id hf
  obtain ⟨⟨r5, r6, r7, r8, r9⟩, ⟨l1, l2, l3⟩, hcb, hab, hrb⟩ := id hvr
  have hS : okS (g 0) (g 1) (g 2) (g 3) := by rw [f0, f1, f2, f3]; exact hG.1
  have hxl := h.len
  have hl4 := hh.1
  have fr : Off M0 M0 d (d + 9) := Off.rf
  unfold oAccount
  try dsimp only
  refine C.intro (pl := [some (.ref d), some (vI a), some (vI w)]) pn_X9 rfl (fun h => absurd h (by decide)) rfl (Nat.le_of_ble_eq_true rfl) rfl ?_
  by_cases hc : 0 ≤ a ∧ a < (sA σ).length
  · rw [if_pos hc]
    obtain ⟨u0, u1, u2, u3⟩ := hab a.toNat (by omega)
    rw [getD_map _ _ (show a.toNat < (sA σ).length by omega), getD_map _ _ (show a.toNat < (sA σ).length by omega), getD_map _ _ (show a.toNat < (sA σ).length by omega), getD_map _ _ (show a.toNat < (sA σ).length by omega)]
    by_cases hw : 0 ≤ w ∧ w ≤ 3
    · rw [← u0, ← u1, ← u2, ← u3]
      obtain ⟨wn, rfl⟩ : ∃ wn : Nat, w = (wn : Int) := ⟨w.toNat, by omega⟩
      refine g_iload_n dX9_account_0 rfl ?_
      refine z_iconst dX9_account_1 ?_
      refine g_aload_n dX9_account_2 rfl ?_
      refine z_getf fl_X9_7 dX9_account_3 m_d rfl ?_
      refine z_bipush dX9_account_6 (by decide +kernel) ?_
      refine z_iaload (j := 7) dX9_account_8 m_v rfl (by omega) (by omega) ?_
      refine z_iconst dX9_account_9 ?_
      refine z_isub dX9_account_10 ?_
      refine z_callSR dX9_account_11 lm_X9_130 lk_X9_in (r_in_t (by omega) (by omega) (by omega) (by omega)) rfl rfl (mkRoom rfl rfl) (Nat.le_of_ble_eq_true rfl) (Nat.le_of_ble_eq_true rfl) (Nat.le_of_ble_eq_true rfl) ?_
      refine z_if_eq (tgt := 43) dX9_account_14 (by decide) (by omega) (fun c14 => absurd c14 (by omega)) (fun c14 => ?_)
      refine g_iload_n dX9_account_17 rfl ?_
      refine z_iconst dX9_account_18 ?_
      refine z_iconst dX9_account_19 ?_
      refine z_callSR dX9_account_20 lm_X9_130 lk_X9_in (r_in_t (by omega) (by omega) (by omega) (by omega)) rfl rfl (mkRoom rfl rfl) (Nat.le_of_ble_eq_true rfl) (Nat.le_of_ble_eq_true rfl) (Nat.le_of_ble_eq_true rfl) ?_
      refine z_if_eq (tgt := 43) dX9_account_23 (by decide) (by omega) (fun c23 => absurd c23 (by omega)) (fun c23 => ?_)
      refine g_aload_n dX9_account_26 rfl ?_
      refine z_getf fl_X9_7 dX9_account_27 m_d rfl ?_
      refine z_sipush dX9_account_30 (by decide +kernel) ?_
      refine z_iconst dX9_account_33 ?_
      refine g_iload_n dX9_account_34 rfl ?_
      refine z_imul dX9_account_35 ?_
      refine z_iadd dX9_account_36 ?_
      refine g_iload_n dX9_account_37 rfl ?_
      refine z_iadd dX9_account_38 ?_
      refine z_iaload (j := 24660 + 4 * a.toNat + wn) dX9_account_39 m_v (by omega) (by omega) (by omega) ?_
      refine g_goto (tgt := 44) dX9_account_40 (by decide) ?_
      refine g_ireturn dX9_account_44 rfl (Nat.le_of_ble_eq_true rfl) (Nat.le_of_ble_eq_true rfl) ⟨rfl, ?_, hR, fr⟩
      have hw4 : wn = 0 ∨ wn = 1 ∨ wn = 2 ∨ wn = 3 := by omega
      rcases hw4 with rfl | rfl | rfl | rfl
      · rfl
      · rfl
      · rfl
      · rfl
    · rw [if_neg (show ¬ w = 0 by omega), if_neg (show ¬ w = 1 by omega), if_neg (show ¬ w = 2 by omega), if_neg (show ¬ w = 3 by omega)]
      refine g_iload_n dX9_account_0 rfl ?_
      refine z_iconst dX9_account_1 ?_
      refine g_aload_n dX9_account_2 rfl ?_
      refine z_getf fl_X9_7 dX9_account_3 m_d rfl ?_
      refine z_bipush dX9_account_6 (by decide +kernel) ?_
      refine z_iaload (j := 7) dX9_account_8 m_v rfl (by omega) (by omega) ?_
      refine z_iconst dX9_account_9 ?_
      refine z_isub dX9_account_10 ?_
      refine z_callSR dX9_account_11 lm_X9_130 lk_X9_in (r_in_t (by omega) (by omega) (by omega) (by omega)) rfl rfl (mkRoom rfl rfl) (Nat.le_of_ble_eq_true rfl) (Nat.le_of_ble_eq_true rfl) (Nat.le_of_ble_eq_true rfl) ?_
      refine z_if_eq (tgt := 43) dX9_account_14 (by decide) (by omega) (fun c14 => absurd c14 (by omega)) (fun c14 => ?_)
      refine g_iload_n dX9_account_17 rfl ?_
      refine z_iconst dX9_account_18 ?_
      refine z_iconst dX9_account_19 ?_
      refine z_callSR dX9_account_20 lm_X9_130 lk_X9_in (r_in_f (by omega) (by omega) (by omega) (by omega)) rfl rfl (mkRoom rfl rfl) (Nat.le_of_ble_eq_true rfl) (Nat.le_of_ble_eq_true rfl) (Nat.le_of_ble_eq_true rfl) ?_
      refine z_if_eq (tgt := 43) dX9_account_23 (by decide) (by omega) (fun c23 => ?_) (fun c23 => absurd c23 (by omega))
      refine z_iconst dX9_account_43 ?_
      exact g_ireturn dX9_account_44 rfl (Nat.le_of_ble_eq_true rfl) (Nat.le_of_ble_eq_true rfl) ⟨rfl, rfl, hR, fr⟩
  · rw [if_neg hc]
    refine g_iload_n dX9_account_0 rfl ?_
    refine z_iconst dX9_account_1 ?_
    refine g_aload_n dX9_account_2 rfl ?_
    refine z_getf fl_X9_7 dX9_account_3 m_d rfl ?_
    refine z_bipush dX9_account_6 (by decide +kernel) ?_
    refine z_iaload (j := 7) dX9_account_8 m_v rfl (by omega) (by omega) ?_
    refine z_iconst dX9_account_9 ?_
    refine z_isub dX9_account_10 ?_
    refine z_callSR dX9_account_11 lm_X9_130 lk_X9_in (r_in_f (by omega) (by omega) (by omega) (by omega)) rfl rfl (mkRoom rfl rfl) (Nat.le_of_ble_eq_true rfl) (Nat.le_of_ble_eq_true rfl) (Nat.le_of_ble_eq_true rfl) ?_
    refine z_if_eq (tgt := 43) dX9_account_14 (by decide) (by omega) (fun c14 => ?_) (fun c14 => absurd c14 (by omega))
    refine z_iconst dX9_account_43 ?_
    exact g_ireturn dX9_account_44 rfl (Nat.le_of_ble_eq_true rfl) (Nat.le_of_ble_eq_true rfl) ⟨rfl, rfl, hR, fr⟩
theorem VP.code {g g' : Nat → Int} {σ : sg} (hf : VP g σ) (cs : List Int) (e : ∀ x, x ≠ 5 → (x < 24260 ∨ 24660 ≤ x) → g' x = g x) (h5 : g' 5 = (cs.length : Int)) (hl : cs.length ≤ 400) (hb : ∀ k : Nat, k < cs.length → g' (24260 + k) = cs.getD k 0) : VP g' (sO σ, sX σ, sS σ, sL σ, sT σ, cs, sA σ, sG σ, sR σ) := by
  obtain ⟨⟨a1, a2, a3, a4⟩, b, ⟨r5, r6, r7, r8, r9⟩, ⟨l1, l2, l3⟩, hcb, hab, hrb⟩ := hf
  refine ⟨⟨(e _ (by omega) (by omega)).trans a1, (e _ (by omega) (by omega)).trans a2, (e _ (by omega) (by omega)).trans a3, (e _ (by omega) (by omega)).trans a4⟩, b.by_ (fun x hx => e x (by omega) (by omega)), ⟨h5, (e _ (by omega) (by omega)).trans r6, (e _ (by omega) (by omega)).trans r7, (e _ (by omega) (by omega)).trans r8, (e _ (by omega) (by omega)).trans r9⟩, ⟨hl, l2, l3⟩, hb, fun k hk => ?_, fun k hk => (e _ (by omega) (by omega)).trans (hrb k hk)⟩
  obtain ⟨u1, u2, u3, u4⟩ := hab k hk
  exact ⟨(e _ (by omega) (by omega)).trans u1, (e _ (by omega) (by omega)).trans u2, (e _ (by omega) (by omega)).trans u3, (e _ (by omega) (by omega)).trans u4⟩
set_option maxHeartbeats 1000000 in
theorem k_cut {M0 : pM} {z d : Nat} {k : kk} {a : Int} (hR : RM M0 d k) (h_a : -2147483648 ≤ a ∧ a < 2147483648) : RK I_X9_cut yX9_cut d [vI a] M0 z (oCut a k) := by
  obtain ⟨σ, hs, x⟩ := k
  obtain ⟨g, gp, e, co, ec, cd, wr, tc, mo, tk, fm, ex, m_d, m_v, hf, hG, ⟨ga, m_as⟩, m_pa, hh, h, hx, hm, hg, ⟨gt, m_to⟩, ⟨gf, m_fo⟩⟩ := id hR
  try dsimp only at m_d hf hG hh h hx
  obtain ⟨⟨f0, f1, f2, f3⟩, hv, hvr⟩ := id hf
  obtain ⟨⟨r5, r6, r7, r8, r9⟩, ⟨l1, l2, l3⟩, hcb, hab, hrb⟩ := id hvr
  have hS : okS (g 0) (g 1) (g 2) (g 3) := by rw [f0, f1, f2, f3]; exact hG.1
  have hxl := h.len
  have hl4 := hh.1
  have fr : Off M0 M0 d (d + 9) := Off.rf
  have hcbb := hG.2.2.1
  unfold oCut pushed
  try dsimp only
  refine C.intro (pl := [some (.ref d), some (vI a)]) pn_X9 rfl (fun h => absurd h (by decide)) rfl (Nat.le_of_ble_eq_true rfl) rfl ?_
  by_cases hc : 1 ≤ a ∧ a ≤ 400
  · rw [if_pos hc]
    by_cases hl : a ≤ (sC σ).length
    · rw [if_pos hl]
      have el : (((sC σ).take ((sC σ).length - a.toNat)).length : Int) = g 5 - a := by rw [List.length_take]; omega
      have el2 : (((sC σ).length - a.toNat : Nat) : Int) = g 5 - a := by omega
      refine g_iload_n dX9_cut_0 rfl ?_
      refine z_iconst dX9_cut_1 ?_
      refine z_sipush dX9_cut_2 (by decide +kernel) ?_
      refine z_callSR dX9_cut_5 lm_X9_130 lk_X9_in (r_in_t (by omega) (by omega) (by omega) (by omega)) rfl rfl (mkRoom rfl rfl) (Nat.le_of_ble_eq_true rfl) (Nat.le_of_ble_eq_true rfl) (Nat.le_of_ble_eq_true rfl) ?_
      refine z_if_ne (tgt := 13) dX9_cut_8 (by decide) (by omega) (fun c8 => ?_) (fun c8 => absurd c8 (by omega))
      refine g_iload_n dX9_cut_13 rfl ?_
      refine g_aload_n dX9_cut_14 rfl ?_
      refine z_getf fl_X9_7 dX9_cut_15 m_d rfl ?_
      refine z_iconst dX9_cut_18 ?_
      refine z_iaload (j := 5) dX9_cut_19 m_v rfl (by omega) (by omega) ?_
      refine z_icmp_le (tgt := 26) dX9_cut_20 (by decide) (by omega) (by omega) (fun c20 => ?_) (fun c20 => absurd c20 (by omega))
      refine g_aload_n dX9_cut_26 rfl ?_
      refine g_aload_n dX9_cut_27 rfl ?_
      refine z_getf fl_X9_7 dX9_cut_28 m_d rfl ?_
      refine z_callVV dX9_cut_31 lm_X9_41 lk_X9_keeps (r_keeps m_v (by omega) hf m_d m_pa hh hG) rfl rfl m_d rfl (mkRoom rfl rfl) (Nat.le_of_ble_eq_true rfl) (Nat.le_of_ble_eq_true rfl) (Nat.le_of_ble_eq_true rfl) (fun M r hp => ?_)
      obtain ⟨rfl, m_d, ⟨gp2, m_pa, hh2⟩, o1⟩ := hp
      have m_v := (o1 _ (by omega)).trans m_v
      have m_as := (o1 _ (by omega)).trans m_as
      have h := h.by_ (o1 _ (by omega))
      have hm := hm.by_ (o1 _ (by omega))
      have hg := hg.by_ (o1 _ (by omega))
      have m_to := (o1 _ (by omega)).trans m_to
      have m_fo := (o1 _ (by omega)).trans m_fo
      have fr : Off M0 M d (d + 9) := fun x hx => (o1 x (by omega)).trans (fr x hx)
      refine g_aload_n dX9_cut_34 rfl ?_
      refine z_getf fl_X9_7 dX9_cut_35 m_d rfl ?_
      refine z_iconst dX9_cut_38 ?_
      refine g_dup2 dX9_cut_39 rfl rfl ?_
      refine z_iaload (j := 5) dX9_cut_40 m_v rfl (by omega) (by omega) ?_
      refine g_iload_n dX9_cut_41 rfl ?_
      refine z_isub dX9_cut_42 ?_
      refine z_iastore (j := 5) dX9_cut_43 m_v (by omega) (by omega) (by omega) (fun M m_v o => ?_)
      have m_d := (o _ (by omega)).trans m_d
      have m_as := (o _ (by omega)).trans m_as
      have m_pa := (o _ (by omega)).trans m_pa
      have h := h.by_ (o _ (by omega))
      have hm := hm.by_ (o _ (by omega))
      have hg := hg.by_ (o _ (by omega))
      have m_to := (o _ (by omega)).trans m_to
      have m_fo := (o _ (by omega)).trans m_fo
      have fr : Off M0 M d (d + 9) := fun x hx => (o x (by omega)).trans (fr x hx)
      refine g_aload_n dX9_cut_44 rfl ?_
      refine z_getf fl_X9_7 dX9_cut_45 m_d rfl ?_
      refine z_iconst dX9_cut_48 ?_
      refine z_iaload (j := 5) dX9_cut_49 m_v rfl (by omega) (by omega) ?_
      exact g_ireturn dX9_cut_50 rfl (Nat.le_of_ble_eq_true rfl) (Nat.le_of_ble_eq_true rfl) ⟨rfl, by rw [upZ_s, el2], ⟨_, _, e, _, _, _, _, _, _, _, _, _, m_d, m_v, hf.code _ (fun x hx _ => upZ_n hx) (by rw [upZ_s, el]) (by rw [List.length_take]; omega) (fun k hk => by
        rw [List.length_take] at hk
        rw [upZ_n (by omega), hcb k (by omega), List.getD_eq_getElem?_getD, List.getD_eq_getElem?_getD, List.getElem?_take_of_lt (by omega)]), ⟨hG.1, hG.2.1, fun y hy => hcbb y (List.mem_of_mem_take hy), hG.2.2.2⟩, ⟨_, m_as⟩, m_pa, hh2, h, hx, hm, hg, ⟨_, m_to⟩, ⟨_, m_fo⟩⟩, fr⟩
    · rw [if_neg hl]
      refine g_iload_n dX9_cut_0 rfl ?_
      refine z_iconst dX9_cut_1 ?_
      refine z_sipush dX9_cut_2 (by decide +kernel) ?_
      refine z_callSR dX9_cut_5 lm_X9_130 lk_X9_in (r_in_t (by omega) (by omega) (by omega) (by omega)) rfl rfl (mkRoom rfl rfl) (Nat.le_of_ble_eq_true rfl) (Nat.le_of_ble_eq_true rfl) (Nat.le_of_ble_eq_true rfl) ?_
      refine z_if_ne (tgt := 13) dX9_cut_8 (by decide) (by omega) (fun c8 => ?_) (fun c8 => absurd c8 (by omega))
      refine g_iload_n dX9_cut_13 rfl ?_
      refine g_aload_n dX9_cut_14 rfl ?_
      refine z_getf fl_X9_7 dX9_cut_15 m_d rfl ?_
      refine z_iconst dX9_cut_18 ?_
      refine z_iaload (j := 5) dX9_cut_19 m_v rfl (by omega) (by omega) ?_
      refine z_icmp_le (tgt := 26) dX9_cut_20 (by decide) (by omega) (by omega) (fun c20 => absurd c20 (by omega)) (fun c20 => ?_)
      refine z_bipush dX9_cut_23 (by decide +kernel) ?_
      exact g_ireturn dX9_cut_25 rfl (Nat.le_of_ble_eq_true rfl) (Nat.le_of_ble_eq_true rfl) ⟨rfl, rfl, hR, fr⟩
  · rw [if_neg hc]
    refine g_iload_n dX9_cut_0 rfl ?_
    refine z_iconst dX9_cut_1 ?_
    refine z_sipush dX9_cut_2 (by decide +kernel) ?_
    refine z_callSR dX9_cut_5 lm_X9_130 lk_X9_in (r_in_f (by omega) (by omega) (by omega) (by omega)) rfl rfl (mkRoom rfl rfl) (Nat.le_of_ble_eq_true rfl) (Nat.le_of_ble_eq_true rfl) (Nat.le_of_ble_eq_true rfl) ?_
    refine z_if_ne (tgt := 13) dX9_cut_8 (by decide) (by omega) (fun c8 => absurd c8 (by omega)) (fun c8 => ?_)
    refine z_iconst dX9_cut_11 ?_
    exact g_ireturn dX9_cut_12 rfl (Nat.le_of_ble_eq_true rfl) (Nat.le_of_ble_eq_true rfl) ⟨rfl, rfl, hR, fr⟩
set_option maxHeartbeats 1000000 in
theorem k_append {M0 : pM} {z d : Nat} {k : kk} {a : Int} (hR : RM M0 d k) (h_a : -2147483648 ≤ a ∧ a < 2147483648) : RK I_X9_append yX9_append d [vI a] M0 z (oAppend a k) := by
  obtain ⟨σ, hs, x⟩ := k
  obtain ⟨g, gp, e, co, ec, cd, wr, tc, mo, tk, fm, ex, m_d, m_v, hf, hG, ⟨ga, m_as⟩, m_pa, hh, h, hx, hm, hg, ⟨gt, m_to⟩, ⟨gf, m_fo⟩⟩ := id hR
  try dsimp only at m_d hf hG hh h hx
  obtain ⟨⟨f0, f1, f2, f3⟩, hv, hvr⟩ := id hf
  obtain ⟨⟨r5, r6, r7, r8, r9⟩, ⟨l1, l2, l3⟩, hcb, hab, hrb⟩ := id hvr
  have hS : okS (g 0) (g 1) (g 2) (g 3) := by rw [f0, f1, f2, f3]; exact hG.1
  have hxl := h.len
  have hl4 := hh.1
  have fr : Off M0 M0 d (d + 9) := Off.rf
  have hcbb := hG.2.2.1
  unfold oAppend pushed
  try dsimp only
  refine C.intro (pl := [some (.ref d), some (vI a)]) pn_X9 rfl (fun h => absurd h (by decide)) rfl (Nat.le_of_ble_eq_true rfl) rfl ?_
  by_cases hc : 0 ≤ a ∧ a ≤ 255
  · rw [if_pos hc]
    by_cases hl : (sC σ).length < 400
    · rw [if_pos hl]
      have u5 : upZ g (24260 + (sC σ).length) a 5 = g 5 := upZ_n (by omega)
      have el : ((sC σ ++ [a]).length : Int) = g 5 + 1 := by rw [List.length_append, List.length_singleton]; omega
      refine g_iload_n dX9_append_0 rfl ?_
      refine z_iconst dX9_append_1 ?_
      refine z_sipush dX9_append_2 (by decide +kernel) ?_
      refine z_callSR dX9_append_5 lm_X9_130 lk_X9_in (r_in_t (by omega) (by omega) (by omega) (by omega)) rfl rfl (mkRoom rfl rfl) (Nat.le_of_ble_eq_true rfl) (Nat.le_of_ble_eq_true rfl) (Nat.le_of_ble_eq_true rfl) ?_
      refine z_if_ne (tgt := 13) dX9_append_8 (by decide) (by omega) (fun c8 => ?_) (fun c8 => absurd c8 (by omega))
      refine g_aload_n dX9_append_13 rfl ?_
      refine z_getf fl_X9_7 dX9_append_14 m_d rfl ?_
      refine z_iconst dX9_append_17 ?_
      refine z_iaload (j := 5) dX9_append_18 m_v rfl (by omega) (by omega) ?_
      refine z_sipush dX9_append_19 (by decide +kernel) ?_
      refine z_icmp_ne (tgt := 28) dX9_append_22 (by decide) (by omega) (by omega) (fun c22 => ?_) (fun c22 => absurd c22 (by omega))
      refine g_aload_n dX9_append_28 rfl ?_
      refine g_aload_n dX9_append_29 rfl ?_
      refine z_getf fl_X9_7 dX9_append_30 m_d rfl ?_
      refine z_callVV dX9_append_33 lm_X9_41 lk_X9_keeps (r_keeps m_v (by omega) hf m_d m_pa hh hG) rfl rfl m_d rfl (mkRoom rfl rfl) (Nat.le_of_ble_eq_true rfl) (Nat.le_of_ble_eq_true rfl) (Nat.le_of_ble_eq_true rfl) (fun M r hp => ?_)
      obtain ⟨rfl, m_d, ⟨gp2, m_pa, hh2⟩, o1⟩ := hp
      have m_v := (o1 _ (by omega)).trans m_v
      have m_as := (o1 _ (by omega)).trans m_as
      have h := h.by_ (o1 _ (by omega))
      have hm := hm.by_ (o1 _ (by omega))
      have hg := hg.by_ (o1 _ (by omega))
      have m_to := (o1 _ (by omega)).trans m_to
      have m_fo := (o1 _ (by omega)).trans m_fo
      have fr : Off M0 M d (d + 9) := fun x hx => (o1 x (by omega)).trans (fr x hx)
      refine g_aload_n dX9_append_36 rfl ?_
      refine z_getf fl_X9_7 dX9_append_37 m_d rfl ?_
      refine z_sipush dX9_append_40 (by decide +kernel) ?_
      refine g_aload_n dX9_append_43 rfl ?_
      refine z_getf fl_X9_7 dX9_append_44 m_d rfl ?_
      refine z_iconst dX9_append_47 ?_
      refine z_iaload (j := 5) dX9_append_48 m_v rfl (by omega) (by omega) ?_
      refine z_iadd dX9_append_49 ?_
      refine g_iload_n dX9_append_50 rfl ?_
      refine z_iastore (j := 24260 + (sC σ).length) dX9_append_51 m_v (by omega) (by omega) (by omega) (fun M m_v o => ?_)
      have m_d := (o _ (by omega)).trans m_d
      have m_as := (o _ (by omega)).trans m_as
      have m_pa := (o _ (by omega)).trans m_pa
      have h := h.by_ (o _ (by omega))
      have hm := hm.by_ (o _ (by omega))
      have hg := hg.by_ (o _ (by omega))
      have m_to := (o _ (by omega)).trans m_to
      have m_fo := (o _ (by omega)).trans m_fo
      have fr : Off M0 M d (d + 9) := fun x hx => (o x (by omega)).trans (fr x hx)
      refine g_aload_n dX9_append_52 rfl ?_
      refine z_getf fl_X9_7 dX9_append_53 m_d rfl ?_
      refine z_iconst dX9_append_56 ?_
      refine g_dup2 dX9_append_57 rfl rfl ?_
      refine z_iaload (j := 5) dX9_append_58 m_v rfl (by omega) (by omega) ?_
      refine z_iconst dX9_append_59 ?_
      refine z_iadd dX9_append_60 ?_
      refine z_iastore (j := 5) dX9_append_61 m_v (by omega) (by omega) (by omega) (fun M m_v o => ?_)
      have m_d := (o _ (by omega)).trans m_d
      have m_as := (o _ (by omega)).trans m_as
      have m_pa := (o _ (by omega)).trans m_pa
      have h := h.by_ (o _ (by omega))
      have hm := hm.by_ (o _ (by omega))
      have hg := hg.by_ (o _ (by omega))
      have m_to := (o _ (by omega)).trans m_to
      have m_fo := (o _ (by omega)).trans m_fo
      have fr : Off M0 M d (d + 9) := fun x hx => (o x (by omega)).trans (fr x hx)
      refine g_aload_n dX9_append_62 rfl ?_
      refine z_getf fl_X9_7 dX9_append_63 m_d rfl ?_
      refine z_iconst dX9_append_66 ?_
      refine z_iaload (j := 5) dX9_append_67 m_v rfl (by omega) (by omega) ?_
      exact g_ireturn dX9_append_68 rfl (Nat.le_of_ble_eq_true rfl) (Nat.le_of_ble_eq_true rfl) ⟨rfl, by rw [upZ_s, u5, r5], ⟨_, _, e, _, _, _, _, _, _, _, _, _, m_d, m_v, hf.code _ (fun x hx h2 => by rw [upZ_n hx, upZ_n (by omega)]) (by rw [upZ_s, u5, el]) (by rw [List.length_append, List.length_singleton]; omega) (fun k hk => by
        rw [List.length_append, List.length_singleton] at hk
        rw [upZ_n (by omega)]
        by_cases q : k = (sC σ).length
        · rw [q, upZ_s, getD_last]
        · rw [upZ_n (by omega), hcb k (by omega), getD_app (by omega)]), ⟨hG.1, hG.2.1, hcbb.snoc (by omega), hG.2.2.2⟩, ⟨_, m_as⟩, m_pa, hh2, h, hx, hm, hg, ⟨_, m_to⟩, ⟨_, m_fo⟩⟩, fr⟩
    · rw [if_neg hl]
      refine g_iload_n dX9_append_0 rfl ?_
      refine z_iconst dX9_append_1 ?_
      refine z_sipush dX9_append_2 (by decide +kernel) ?_
      refine z_callSR dX9_append_5 lm_X9_130 lk_X9_in (r_in_t (by omega) (by omega) (by omega) (by omega)) rfl rfl (mkRoom rfl rfl) (Nat.le_of_ble_eq_true rfl) (Nat.le_of_ble_eq_true rfl) (Nat.le_of_ble_eq_true rfl) ?_
      refine z_if_ne (tgt := 13) dX9_append_8 (by decide) (by omega) (fun c8 => ?_) (fun c8 => absurd c8 (by omega))
      refine g_aload_n dX9_append_13 rfl ?_
      refine z_getf fl_X9_7 dX9_append_14 m_d rfl ?_
      refine z_iconst dX9_append_17 ?_
      refine z_iaload (j := 5) dX9_append_18 m_v rfl (by omega) (by omega) ?_
      refine z_sipush dX9_append_19 (by decide +kernel) ?_
      refine z_icmp_ne (tgt := 28) dX9_append_22 (by decide) (by omega) (by omega) (fun c22 => absurd c22 (by omega)) (fun c22 => ?_)
      refine z_bipush dX9_append_25 (by decide +kernel) ?_
      exact g_ireturn dX9_append_27 rfl (Nat.le_of_ble_eq_true rfl) (Nat.le_of_ble_eq_true rfl) ⟨rfl, rfl, hR, fr⟩
  · rw [if_neg hc]
    refine g_iload_n dX9_append_0 rfl ?_
    refine z_iconst dX9_append_1 ?_
    refine z_sipush dX9_append_2 (by decide +kernel) ?_
    refine z_callSR dX9_append_5 lm_X9_130 lk_X9_in (r_in_f (by omega) (by omega) (by omega) (by omega)) rfl rfl (mkRoom rfl rfl) (Nat.le_of_ble_eq_true rfl) (Nat.le_of_ble_eq_true rfl) (Nat.le_of_ble_eq_true rfl) ?_
    refine z_if_ne (tgt := 13) dX9_append_8 (by decide) (by omega) (fun c8 => absurd c8 (by omega)) (fun c8 => ?_)
    refine z_iconst dX9_append_11 ?_
    exact g_ireturn dX9_append_12 rfl (Nat.le_of_ble_eq_true rfl) (Nat.le_of_ble_eq_true rfl) ⟨rfl, rfl, hR, fr⟩
set_option maxHeartbeats 1000000 in
theorem k_flip {M0 : pM} {z d : Nat} {k : kk} {a : Int} {b : Int} (hR : RM M0 d k) (h_a : -2147483648 ≤ a ∧ a < 2147483648) (h_b : -2147483648 ≤ b ∧ b < 2147483648) : RK I_X9_flip yX9_flip d [vI a, vI b] M0 z (oFlip a b k) := by
  obtain ⟨σ, hs, x⟩ := k
  obtain ⟨g, gp, e, co, ec, cd, wr, tc, mo, tk, fm, ex, m_d, m_v, hf, hG, ⟨ga, m_as⟩, m_pa, hh, h, hx, hm, hg, ⟨gt, m_to⟩, ⟨gf, m_fo⟩⟩ := id hR
  try dsimp only at m_d hf hG hh h hx
  obtain ⟨⟨f0, f1, f2, f3⟩, hv, hvr⟩ := id hf
  obtain ⟨⟨r5, r6, r7, r8, r9⟩, ⟨l1, l2, l3⟩, hcb, hab, hrb⟩ := id hvr
  have hS : okS (g 0) (g 1) (g 2) (g 3) := by rw [f0, f1, f2, f3]; exact hG.1
  have hxl := h.len
  have hl4 := hh.1
  have fr : Off M0 M0 d (d + 9) := Off.rf
  have hcbb := hG.2.2.1
  unfold oFlip pushed
  try dsimp only
  refine C.intro (pl := [some (.ref d), some (vI a), some (vI b)]) pn_X9 rfl (fun h => absurd h (by decide)) rfl (Nat.le_of_ble_eq_true rfl) rfl ?_
  by_cases hc : (0 ≤ a ∧ a < (sC σ).length) ∧ 0 ≤ b ∧ b ≤ 7
  · rw [if_pos hc]
    have hbg := hcbb.get a.toNat
    have hx1 : (((sC σ).getD a.toNat 0).toNat ^^^ 2 ^ b.toNat) < 256 := Nat.xor_lt_two_pow (n := 8) (by omega) (Nat.pow_lt_pow_right (by decide) (by omega))
    have hbb : b = ((b.toNat : Nat) : Int) := by omega
    have hga := hcb a.toNat (by omega)
    refine g_iload_n dX9_flip_0 rfl ?_
    refine z_iconst dX9_flip_1 ?_
    refine g_aload_n dX9_flip_2 rfl ?_
    refine z_getf fl_X9_7 dX9_flip_3 m_d rfl ?_
    refine z_iconst dX9_flip_6 ?_
    refine z_iaload (j := 5) dX9_flip_7 m_v rfl (by omega) (by omega) ?_
    refine z_iconst dX9_flip_8 ?_
    refine z_isub dX9_flip_9 ?_
    refine z_callSR dX9_flip_10 lm_X9_130 lk_X9_in (r_in_t (by omega) (by omega) (by omega) (by omega)) rfl rfl (mkRoom rfl rfl) (Nat.le_of_ble_eq_true rfl) (Nat.le_of_ble_eq_true rfl) (Nat.le_of_ble_eq_true rfl) ?_
    refine z_if_eq (tgt := 26) dX9_flip_13 (by decide) (by omega) (fun c13 => absurd c13 (by omega)) (fun c13 => ?_)
    refine g_iload_n dX9_flip_16 rfl ?_
    refine z_iconst dX9_flip_17 ?_
    refine z_bipush dX9_flip_18 (by decide +kernel) ?_
    refine z_callSR dX9_flip_20 lm_X9_130 lk_X9_in (r_in_t (by omega) (by omega) (by omega) (by omega)) rfl rfl (mkRoom rfl rfl) (Nat.le_of_ble_eq_true rfl) (Nat.le_of_ble_eq_true rfl) (Nat.le_of_ble_eq_true rfl) ?_
    refine z_if_ne (tgt := 28) dX9_flip_23 (by decide) (by omega) (fun c23 => ?_) (fun c23 => absurd c23 (by omega))
    refine g_aload_n dX9_flip_28 rfl ?_
    refine g_aload_n dX9_flip_29 rfl ?_
    refine z_getf fl_X9_7 dX9_flip_30 m_d rfl ?_
    refine z_callVV dX9_flip_33 lm_X9_41 lk_X9_keeps (r_keeps m_v (by omega) hf m_d m_pa hh hG) rfl rfl m_d rfl (mkRoom rfl rfl) (Nat.le_of_ble_eq_true rfl) (Nat.le_of_ble_eq_true rfl) (Nat.le_of_ble_eq_true rfl) (fun M r hp => ?_)
    obtain ⟨rfl, m_d, ⟨gp2, m_pa, hh2⟩, o1⟩ := hp
    have m_v := (o1 _ (by omega)).trans m_v
    have m_as := (o1 _ (by omega)).trans m_as
    have h := h.by_ (o1 _ (by omega))
    have hm := hm.by_ (o1 _ (by omega))
    have hg := hg.by_ (o1 _ (by omega))
    have m_to := (o1 _ (by omega)).trans m_to
    have m_fo := (o1 _ (by omega)).trans m_fo
    have fr : Off M0 M d (d + 9) := fun x hx => (o1 x (by omega)).trans (fr x hx)
    refine g_aload_n dX9_flip_36 rfl ?_
    refine z_getf fl_X9_7 dX9_flip_37 m_d rfl ?_
    refine z_sipush dX9_flip_40 (by decide +kernel) ?_
    refine g_iload_n dX9_flip_43 rfl ?_
    refine z_iadd dX9_flip_44 ?_
    refine g_dup2 dX9_flip_45 rfl rfl ?_
    refine z_iaload (j := 24260 + a.toNat) dX9_flip_46 m_v (by omega) (by omega) (by omega) ?_
    refine z_iconst dX9_flip_47 ?_
    refine g_iload_n dX9_flip_48 rfl ?_
    refine g_ishl dX9_flip_49 ?_
    refine G.top (v' := vI (((2 : Nat) ^ b.toNat : Nat) : Int)) (by rw [hbb, iZ_shl 1 (by omega), Int.one_mul, Int.toNat_natCast]; push_cast; rfl) ?_
    refine g_ixor dX9_flip_50 ?_
    refine G.top (v' := vI ((((sC σ).getD a.toNat 0).toNat ^^^ 2 ^ b.toNat : Nat) : Int)) (by rw [hga, show (sC σ).getD a.toNat 0 = ((((sC σ).getD a.toNat 0).toNat : Nat) : Int) by omega, iZ_xor, Int.toNat_natCast]) ?_
    refine z_iastore (j := 24260 + a.toNat) dX9_flip_51 m_v (by omega) (by omega) (by omega) (fun M m_v o => ?_)
    have m_d := (o _ (by omega)).trans m_d
    have m_as := (o _ (by omega)).trans m_as
    have m_pa := (o _ (by omega)).trans m_pa
    have h := h.by_ (o _ (by omega))
    have hm := hm.by_ (o _ (by omega))
    have hg := hg.by_ (o _ (by omega))
    have m_to := (o _ (by omega)).trans m_to
    have m_fo := (o _ (by omega)).trans m_fo
    have fr : Off M0 M d (d + 9) := fun x hx => (o x (by omega)).trans (fr x hx)
    refine g_aload_n dX9_flip_52 rfl ?_
    refine z_getf fl_X9_7 dX9_flip_53 m_d rfl ?_
    refine z_sipush dX9_flip_56 (by decide +kernel) ?_
    refine g_iload_n dX9_flip_59 rfl ?_
    refine z_iadd dX9_flip_60 ?_
    refine z_iaload (j := 24260 + a.toNat) dX9_flip_61 m_v (by omega) (by omega) (by omega) ?_
    exact g_ireturn dX9_flip_62 rfl (Nat.le_of_ble_eq_true rfl) (Nat.le_of_ble_eq_true rfl) ⟨rfl, by rw [upZ_s], ⟨_, _, e, _, _, _, _, _, _, _, _, _, m_d, m_v, hf.code _ (fun x hx h2 => upZ_n (by omega)) (by rw [upZ_n (by omega), List.length_set]; exact r5) (by rw [List.length_set]; exact l1) (fun k hk => by
        rw [List.length_set] at hk
        rw [getD_set (by omega)]
        by_cases q : k = a.toNat
        · rw [q, upZ_s, if_pos rfl]
        · rw [upZ_n (by omega), if_neg q]; exact hcb k hk), ⟨hG.1, hG.2.1, hcbb.set (by omega), hG.2.2.2⟩, ⟨_, m_as⟩, m_pa, hh2, h, hx, hm, hg, ⟨_, m_to⟩, ⟨_, m_fo⟩⟩, fr⟩
  · rw [if_neg hc]
    by_cases h0 : 0 ≤ a ∧ a < (sC σ).length
    · refine g_iload_n dX9_flip_0 rfl ?_
      refine z_iconst dX9_flip_1 ?_
      refine g_aload_n dX9_flip_2 rfl ?_
      refine z_getf fl_X9_7 dX9_flip_3 m_d rfl ?_
      refine z_iconst dX9_flip_6 ?_
      refine z_iaload (j := 5) dX9_flip_7 m_v rfl (by omega) (by omega) ?_
      refine z_iconst dX9_flip_8 ?_
      refine z_isub dX9_flip_9 ?_
      refine z_callSR dX9_flip_10 lm_X9_130 lk_X9_in (r_in_t (by omega) (by omega) (by omega) (by omega)) rfl rfl (mkRoom rfl rfl) (Nat.le_of_ble_eq_true rfl) (Nat.le_of_ble_eq_true rfl) (Nat.le_of_ble_eq_true rfl) ?_
      refine z_if_eq (tgt := 26) dX9_flip_13 (by decide) (by omega) (fun c13 => absurd c13 (by omega)) (fun c13 => ?_)
      refine g_iload_n dX9_flip_16 rfl ?_
      refine z_iconst dX9_flip_17 ?_
      refine z_bipush dX9_flip_18 (by decide +kernel) ?_
      refine z_callSR dX9_flip_20 lm_X9_130 lk_X9_in (r_in_f (by omega) (by omega) (by omega) (by omega)) rfl rfl (mkRoom rfl rfl) (Nat.le_of_ble_eq_true rfl) (Nat.le_of_ble_eq_true rfl) (Nat.le_of_ble_eq_true rfl) ?_
      refine z_if_ne (tgt := 28) dX9_flip_23 (by decide) (by omega) (fun c23 => absurd c23 (by omega)) (fun c23 => ?_)
      refine z_iconst dX9_flip_26 ?_
      exact g_ireturn dX9_flip_27 rfl (Nat.le_of_ble_eq_true rfl) (Nat.le_of_ble_eq_true rfl) ⟨rfl, rfl, hR, fr⟩
    · refine g_iload_n dX9_flip_0 rfl ?_
      refine z_iconst dX9_flip_1 ?_
      refine g_aload_n dX9_flip_2 rfl ?_
      refine z_getf fl_X9_7 dX9_flip_3 m_d rfl ?_
      refine z_iconst dX9_flip_6 ?_
      refine z_iaload (j := 5) dX9_flip_7 m_v rfl (by omega) (by omega) ?_
      refine z_iconst dX9_flip_8 ?_
      refine z_isub dX9_flip_9 ?_
      refine z_callSR dX9_flip_10 lm_X9_130 lk_X9_in (r_in_f (by omega) (by omega) (by omega) (by omega)) rfl rfl (mkRoom rfl rfl) (Nat.le_of_ble_eq_true rfl) (Nat.le_of_ble_eq_true rfl) (Nat.le_of_ble_eq_true rfl) ?_
      refine z_if_eq (tgt := 26) dX9_flip_13 (by decide) (by omega) (fun c13 => ?_) (fun c13 => absurd c13 (by omega))
      refine z_iconst dX9_flip_26 ?_
      exact g_ireturn dX9_flip_27 rfl (Nat.le_of_ble_eq_true rfl) (Nat.le_of_ble_eq_true rfl) ⟨rfl, rfl, hR, fr⟩
set_option maxHeartbeats 1000000 in
theorem k_undo {M0 : pM} {z d : Nat} {k : kk}  (hR : RM M0 d k)  : RK I_X9_undo yX9_undo d [] M0 z (oUndo k) := by
  obtain ⟨σ, hs, x⟩ := k
  obtain ⟨g, gp, e, co, ec, cd, wr, tc, mo, tk, fm, ex, m_d, m_v, hf, hG, ⟨ga, m_as⟩, m_pa, hh, h, hx, hm, hg, ⟨gt, m_to⟩, ⟨gf, m_fo⟩⟩ := id hR
  try dsimp only at m_d hf hG hh h hx
  obtain ⟨⟨f0, f1, f2, f3⟩, hv, hvr⟩ := id hf
  obtain ⟨⟨r5, r6, r7, r8, r9⟩, ⟨l1, l2, l3⟩, hcb, hab, hrb⟩ := id hvr
  have hS : okS (g 0) (g 1) (g 2) (g 3) := by rw [f0, f1, f2, f3]; exact hG.1
  have hxl := h.len
  have hl4 := hh.1
  have fr : Off M0 M0 d (d + 9) := Off.rf
  unfold oUndo
  try dsimp only
  refine C.intro (pl := [some (.ref d), none]) pn_X9 rfl (fun h => absurd h (by decide)) rfl (Nat.le_of_ble_eq_true rfl) rfl ?_
  by_cases h0 : hs.length = 0
  · have e0 : hs = [] := List.eq_nil_of_length_eq_zero h0
    subst e0
    refine g_aload_n dX9_undo_0 rfl ?_
    refine z_getf fl_X9_36 dX9_undo_1 m_d rfl ?_
    have hnil : (([] : List sg).length : Int) = 0 := rfl
    refine z_if_ne (tgt := 10) dX9_undo_4 (by decide) (by omega) (fun c4 => absurd c4 (by omega)) (fun c4 => ?_)
    refine z_bipush dX9_undo_7 (by decide +kernel) ?_
    exact g_ireturn dX9_undo_9 rfl (Nat.le_of_ble_eq_true rfl) (Nat.le_of_ble_eq_true rfl) ⟨rfl, rfl, hR, fr⟩
  · have eg : hs.getLast? = some hs[hs.length - 1] := by rw [List.getLast?_eq_getElem?, List.getElem?_eq_getElem (by omega)]
    rw [eg]
    try dsimp only
    have ep : (hs.length : Int) - 1 = ((hs.length - 1 : Nat) : Int) := by omega
    have hvl := hh.2 (hs.length - 1) (by omega)
    have hh2 : HP gp hs.dropLast := ⟨by rw [List.length_dropLast]; omega, fun i hi => by
      rw [List.length_dropLast] at hi
      rw [List.getElem_dropLast]
      exact hh.2 i (by omega)⟩
    have ed : ((hs.dropLast).length : Int) = ((hs.length - 1 : Nat) : Int) := by rw [List.length_dropLast]
    have loop : ∀ (u j : Nat) (M : pM) (g1 : Nat → Int), j + u = 25700 → M d = some (ro d ((hs.length - 1 : Nat) : Int) (x.length : Int) e.1 e.2.1 (e.2.2.1.length : Int) e.2.2.2 co ec cd wr tc mo tk fm) → M (d + 1) = some (arI 25700 g1) → (∀ x, x < j → g1 x = gp (25700 * (hs.length - 1) + x)) → M (d + 2) = some (arI 25700 ga) → M (d + 3) = some (arI 102800 gp) → Tx M (d + 4) 200 x → Ma M d e.2.2.1 → Go M d ex → M (d + 7) = some (arI 804 gt) → M (d + 8) = some (arI 201 gf) → Off M0 M d (d + 9) → G I_X9_undo 0 0 (fun M' z' r' => z' = z ∧ r' = some (vI ((hs.length - 1 : Nat) : Int)) ∧ RM M' d (hs[hs.length - 1], hs.dropLast, x) ∧ Off M0 M' d (d + 9)) 0 0 22 [some (.ref d), some (vI (j : Int))] [] M z := by
      intro u
      induction u with
      | zero =>
        intro j M g1 hj m_d m_v h1 m_as m_pa h hm hg m_to m_fo fr
        have e1 : j = 25700 := by omega
        subst e1
        refine g_iload_n dX9_undo_22 rfl ?_
        refine z_sipush dX9_undo_23 (by decide +kernel) ?_
        refine z_icmp_ge (tgt := 56) dX9_undo_26 (by decide) (by omega) (by omega) (fun c26 => ?_) (fun c26 => absurd c26 (by omega))
        refine g_aload_n dX9_undo_56 rfl ?_
        refine z_getf fl_X9_36 dX9_undo_57 m_d rfl ?_
        exact g_ireturn dX9_undo_60 rfl (Nat.le_of_ble_eq_true rfl) (Nat.le_of_ble_eq_true rfl) ⟨rfl, rfl, ⟨_, _, e, _, _, _, _, _, _, _, _, _, by rw [ed]; exact m_d, m_v, hvl.1.by_ (fun x hx => h1 x hx), hvl.2, ⟨_, m_as⟩, m_pa, hh2, h, hx, hm, hg, ⟨_, m_to⟩, ⟨_, m_fo⟩⟩, fr⟩
      | succ u ih =>
        intro j M g1 hj m_d m_v h1 m_as m_pa h hm hg m_to m_fo fr
        refine g_iload_n dX9_undo_22 rfl ?_
        refine z_sipush dX9_undo_23 (by decide +kernel) ?_
        refine z_icmp_ge (tgt := 56) dX9_undo_26 (by decide) (by omega) (by omega) (fun c26 => absurd c26 (by omega)) (fun c26 => ?_)
        refine g_aload_n dX9_undo_29 rfl ?_
        refine z_getf fl_X9_7 dX9_undo_30 m_d rfl ?_
        refine g_iload_n dX9_undo_33 rfl ?_
        refine g_aload_n dX9_undo_34 rfl ?_
        refine z_getf fl_X9_17 dX9_undo_35 m_d rfl ?_
        refine z_sipush dX9_undo_38 (by decide +kernel) ?_
        refine g_aload_n dX9_undo_41 rfl ?_
        refine z_getf fl_X9_36 dX9_undo_42 m_d rfl ?_
        refine z_imul dX9_undo_45 ?_
        refine g_iload_n dX9_undo_46 rfl ?_
        refine z_iadd dX9_undo_47 ?_
        refine z_iaload (j := 25700 * (hs.length - 1) + j) dX9_undo_48 m_pa (by omega) (by omega) (by omega) ?_
        refine z_iastore (j := j) dX9_undo_49 m_v (by omega) (by omega) (by omega) (fun M m_v o => ?_)
        have m_d := (o _ (by omega)).trans m_d
        have m_pa := (o _ (by omega)).trans m_pa
        have m_as := (o _ (by omega)).trans m_as
        have h := h.by_ (o _ (by omega))
        have hm := hm.by_ (o _ (by omega))
        have hg := hg.by_ (o _ (by omega))
        have m_to := (o _ (by omega)).trans m_to
        have m_fo := (o _ (by omega)).trans m_fo
        have fr : Off M0 M d (d + 9) := fun x hx => (o x (by omega)).trans (fr x hx)
        refine z_iinc dX9_undo_50 rfl (Nat.le_of_ble_eq_true rfl) ?_
        refine g_goto (tgt := 22) dX9_undo_53 (by decide) ?_
        refine ih (j + 1) M _ (by omega) m_d m_v (fun x hx => ?_) m_as m_pa h hm hg m_to m_fo fr
        by_cases q : x = j
        · rw [q, upZ_s]
        · rw [upZ_n q]; exact h1 x (by omega)
    refine g_aload_n dX9_undo_0 rfl ?_
    refine z_getf fl_X9_36 dX9_undo_1 m_d rfl ?_
    refine z_if_ne (tgt := 10) dX9_undo_4 (by decide) (by omega) (fun c4 => ?_) (fun c4 => absurd c4 (by omega))
    refine g_aload_n dX9_undo_10 rfl ?_
    refine g_dup dX9_undo_11 rfl ?_
    refine z_getf fl_X9_36 dX9_undo_12 m_d rfl ?_
    refine z_iconst dX9_undo_15 ?_
    refine z_isub dX9_undo_16 ?_
    refine z_putf fl_X9_36 dX9_undo_17 m_d rfl (Nat.le_of_ble_eq_true rfl) rfl rfl (fun M m_d o => ?_)
    have m_v := (o _ (by omega)).trans m_v
    have m_as := (o _ (by omega)).trans m_as
    have m_pa := (o _ (by omega)).trans m_pa
    have h := h.by_ (o _ (by omega))
    have hm := hm.by_ (o _ (by omega))
    have hg := hg.by_ (o _ (by omega))
    have m_to := (o _ (by omega)).trans m_to
    have m_fo := (o _ (by omega)).trans m_fo
    have fr : Off M0 M d (d + 9) := fun x hx => (o x (by omega)).trans (fr x hx)
    refine z_iconst dX9_undo_20 ?_
    refine g_istore_n dX9_undo_21 rfl (Nat.le_of_ble_eq_true rfl) ?_
    rw [ep] at m_d
    exact loop 25700 0 M _ (by omega) m_d m_v (fun x hx => absurd hx (Nat.not_lt_zero _)) m_as m_pa h hm hg m_to m_fo fr
