set_option maxHeartbeats 1000000 in
theorem c_setOrder {M : pM} {z c : Nat} {k : kk} {a : Int} (h : CC M c k) (h_a : -2147483648 ≤ a ∧ a < 2147483648) : CK I_X8_setOrder yX8_setOrder c [vI a] M z (oSetOrder a k) := by
  obtain ⟨σ, hs, x⟩ := k
  obtain ⟨m_c, hn, hG, hp, hR⟩ := id h
  have m_c : M c = _ := m_c
  obtain ⟨m_n, n1, n2, n3, n4⟩ := id hn
  have fr : Off M M c (c + 131) := Off.rf
  dsimp only at m_c hn hG hp hR m_n n1 n2 n3 n4
  unfold oSetOrder pushed
  try dsimp only
  refine C.intro (pl := [some (.ref c), some (vI a), none]) pn_X8 rfl (fun h => absurd h (by decide)) rfl (Nat.le_of_ble_eq_true rfl) rfl ?_
  by_cases hc : 0 ≤ a ∧ a ≤ 3
  · rw [if_pos hc]
    refine g_iload_n dX8_setOrder_0 rfl ?_
    refine z_if_lt (tgt := 9) dX8_setOrder_1 (by decide) (by omega) (fun c1 => absurd c1 (by omega)) (fun c1 => ?_)
    refine g_iload_n dX8_setOrder_4 rfl ?_
    refine z_iconst dX8_setOrder_5 ?_
    refine z_icmp_le (tgt := 11) dX8_setOrder_6 (by decide) (by omega) (by omega) (fun c6 => ?_) (fun c6 => absurd c6 (by omega))
    refine g_aload_n dX8_setOrder_11 rfl ?_
    refine z_callVV dX8_setOrder_12 lm_X8_82 lk_X8_remember (x_remember m_c hn hG hp) rfl rfl m_c rfl (mkRoom rfl rfl) (Nat.le_of_ble_eq_true rfl) (Nat.le_of_ble_eq_true rfl) (Nat.le_of_ble_eq_true rfl) (fun M r hp2 => ?_)
    obtain ⟨rfl, m_c, hn, hp, o2⟩ := hp2
    have hR := hR.H o2
    have fr := fr.tr (o2.off.wd (by omega) (by omega))
    obtain ⟨m_n, n1, n2, n3, n4⟩ := id hn
    have m_c : M c = _ := m_c
    refine g_aload_n dX8_setOrder_15 rfl ?_
    refine z_getf fl_X8_12 dX8_setOrder_16 m_c rfl ?_
    refine z_getf fl_X8_73 dX8_setOrder_19 m_n rfl ?_
    refine g_istore_n dX8_setOrder_22 rfl (Nat.le_of_ble_eq_true rfl) ?_
    refine g_aload_n dX8_setOrder_23 rfl ?_
    refine z_getf fl_X8_12 dX8_setOrder_24 m_c rfl ?_
    refine g_iload_n dX8_setOrder_27 rfl ?_
    refine z_putf fl_X8_73 dX8_setOrder_28 m_n rfl (Nat.le_of_ble_eq_true rfl) rfl rfl (fun M m_n o => ?_)
    have m_c := (o _ (by omega)).trans m_c
    have o1 : Off _ M (c + 1) (c + 2) := fun x hx => o x (by omega)
    have n1 := n1.off o1 (by omega)
    have n2 := n2.off o1 (by omega)
    have n3 := n3.off o1 (by omega)
    have n4 := n4.off o1 (by omega)
    have hp := hp.off o1 (by omega)
    have hR := hR.off o1 (by omega)
    have fr := fr.tr (o1.wd (by omega) (by omega))
    refine g_aload_n dX8_setOrder_31 rfl ?_
    refine z_getf fl_X8_12 dX8_setOrder_32 m_c rfl ?_
    refine z_getf fl_X8_85 dX8_setOrder_35 m_n rfl ?_
    refine z_callVV dX8_setOrder_38 lm_X8_89 lk_X4_clear (Md_clear n1) rfl rfl n1.obj rfl (mkRoom rfl rfl) (Nat.le_of_ble_eq_true rfl) (Nat.le_of_ble_eq_true rfl) (Nat.le_of_ble_eq_true rfl) (fun M r hp2 => ?_)
    obtain ⟨rfl, n1, o1⟩ := hp2
    have m_c := (o1 _ (by omega)).trans m_c
    have m_n := (o1 _ (by omega)).trans m_n
    have n2 := n2.off o1 (by omega)
    have n3 := n3.off o1 (by omega)
    have n4 := n4.off o1 (by omega)
    have hp := hp.off o1 (by omega)
    have hR := hR.off o1 (by omega)
    have fr := fr.tr (o1.wd (by omega) (by omega))
    refine g_iload_n dX8_setOrder_41 rfl ?_
    exact g_ireturn dX8_setOrder_42 rfl (Nat.le_of_ble_eq_true rfl) (Nat.le_of_ble_eq_true rfl) ⟨rfl, rfl, ⟨m_c, ⟨m_n, n1, n2, n3, n4⟩, ⟨⟨hc, hG.1.2⟩, okT_nil, hG.2.2⟩, hp, hR⟩, fr⟩
  · rw [if_neg hc]
    refine g_iload_n dX8_setOrder_0 rfl ?_
    refine z_if_lt (tgt := 9) dX8_setOrder_1 (by decide) (by omega) (fun c1 => ?_) (fun c1 => ?_)
    · refine z_iconst dX8_setOrder_9 ?_
      exact g_ireturn dX8_setOrder_10 rfl (Nat.le_of_ble_eq_true rfl) (Nat.le_of_ble_eq_true rfl) ⟨rfl, rfl, h, Off.rf⟩
    · refine g_iload_n dX8_setOrder_4 rfl ?_
      refine z_iconst dX8_setOrder_5 ?_
      refine z_icmp_le (tgt := 11) dX8_setOrder_6 (by decide) (by omega) (by omega) (fun c6 => ?_) (fun c6 => ?_)
      · exfalso; omega
      · refine z_iconst dX8_setOrder_9 ?_
        exact g_ireturn dX8_setOrder_10 rfl (Nat.le_of_ble_eq_true rfl) (Nat.le_of_ble_eq_true rfl) ⟨rfl, rfl, h, Off.rf⟩
set_option maxHeartbeats 1000000 in
theorem c_setExclusion {M : pM} {z c : Nat} {k : kk} {a : Int} (h : CC M c k) (h_a : -2147483648 ≤ a ∧ a < 2147483648) (hb : a = 0 ∨ a = 1) : CK I_X8_setExclusion yX8_setExclusion c [vI a] M z (oSetExcl a k) := by
  obtain ⟨σ, hs, x⟩ := k
  obtain ⟨m_c, hn, hG, hp, hR⟩ := id h
  have m_c : M c = _ := m_c
  obtain ⟨m_n, n1, n2, n3, n4⟩ := id hn
  have fr : Off M M c (c + 131) := Off.rf
  dsimp only at m_c hn hG hp hR m_n n1 n2 n3 n4
  unfold oSetExcl pushed
  try dsimp only
  refine C.intro (pl := [some (.ref c), some (vI a), none]) pn_X8 rfl (fun h => absurd h (by decide)) rfl (Nat.le_of_ble_eq_true rfl) rfl ?_
  refine g_aload_n dX8_setExclusion_0 rfl ?_
  refine z_callVV dX8_setExclusion_1 lm_X8_82 lk_X8_remember (x_remember m_c hn hG hp) rfl rfl m_c rfl (mkRoom rfl rfl) (Nat.le_of_ble_eq_true rfl) (Nat.le_of_ble_eq_true rfl) (Nat.le_of_ble_eq_true rfl) (fun M r hp2 => ?_)
  obtain ⟨rfl, m_c, hn, hp, o2⟩ := hp2
  have hR := hR.H o2
  have fr := fr.tr (o2.off.wd (by omega) (by omega))
  obtain ⟨m_n, n1, n2, n3, n4⟩ := id hn
  have m_c : M c = _ := m_c
  refine g_aload_n dX8_setExclusion_4 rfl ?_
  refine z_getf fl_X8_12 dX8_setExclusion_5 m_c rfl ?_
  refine z_getf fl_X8_94 dX8_setExclusion_8 m_n rfl ?_
  refine z_if_eq (tgt := 18) dX8_setExclusion_11 (by decide) (by have := hG.1.2.1; omega) (fun c11 => ?_) (fun c11 => ?_)
  · refine z_iconst dX8_setExclusion_18 ?_
    refine g_istore_n dX8_setExclusion_19 rfl (Nat.le_of_ble_eq_true rfl) ?_
    refine g_aload_n dX8_setExclusion_20 rfl ?_
    refine z_getf fl_X8_12 dX8_setExclusion_21 m_c rfl ?_
    refine g_iload_n dX8_setExclusion_24 rfl ?_
    refine z_putf fl_X8_94 dX8_setExclusion_25 m_n rfl (Nat.le_of_ble_eq_true rfl) (by rcases hb with rfl | rfl <;> rfl) (by rcases hb with rfl | rfl <;> rfl) (fun M m_n o => ?_)
    have m_c := (o _ (by omega)).trans m_c
    have o1 : Off _ M (c + 1) (c + 2) := fun x hx => o x (by omega)
    have n1 := n1.off o1 (by omega)
    have n2 := n2.off o1 (by omega)
    have n3 := n3.off o1 (by omega)
    have n4 := n4.off o1 (by omega)
    have hp := hp.off o1 (by omega)
    have hR := hR.off o1 (by omega)
    have fr := fr.tr (o1.wd (by omega) (by omega))
    refine g_iload_n dX8_setExclusion_28 rfl ?_
    exact g_ireturn dX8_setExclusion_29 rfl (Nat.le_of_ble_eq_true rfl) (Nat.le_of_ble_eq_true rfl) ⟨rfl, by congr 3; have := hG.1.2.1; dsimp only at *; omega, ⟨m_c, ⟨m_n, n1, n2, n3, n4⟩, ⟨⟨hG.1.1, hb, hG.1.2.2⟩, hG.2⟩, hp, hR⟩, fr⟩
  · refine z_iconst dX8_setExclusion_14 ?_
    refine g_goto (tgt := 19) dX8_setExclusion_15 (by decide) ?_
    refine g_istore_n dX8_setExclusion_19 rfl (Nat.le_of_ble_eq_true rfl) ?_
    refine g_aload_n dX8_setExclusion_20 rfl ?_
    refine z_getf fl_X8_12 dX8_setExclusion_21 m_c rfl ?_
    refine g_iload_n dX8_setExclusion_24 rfl ?_
    refine z_putf fl_X8_94 dX8_setExclusion_25 m_n rfl (Nat.le_of_ble_eq_true rfl) (by rcases hb with rfl | rfl <;> rfl) (by rcases hb with rfl | rfl <;> rfl) (fun M m_n o => ?_)
    have m_c := (o _ (by omega)).trans m_c
    have o1 : Off _ M (c + 1) (c + 2) := fun x hx => o x (by omega)
    have n1 := n1.off o1 (by omega)
    have n2 := n2.off o1 (by omega)
    have n3 := n3.off o1 (by omega)
    have n4 := n4.off o1 (by omega)
    have hp := hp.off o1 (by omega)
    have hR := hR.off o1 (by omega)
    have fr := fr.tr (o1.wd (by omega) (by omega))
    refine g_iload_n dX8_setExclusion_28 rfl ?_
    exact g_ireturn dX8_setExclusion_29 rfl (Nat.le_of_ble_eq_true rfl) (Nat.le_of_ble_eq_true rfl) ⟨rfl, by congr 3; have := hG.1.2.1; dsimp only at *; omega, ⟨m_c, ⟨m_n, n1, n2, n3, n4⟩, ⟨⟨hG.1.1, hb, hG.1.2.2⟩, hG.2⟩, hp, hR⟩, fr⟩
set_option maxHeartbeats 1000000 in
theorem c_setStep {M : pM} {z c : Nat} {k : kk} {a : Int} (h : CC M c k) (h_a : -2147483648 ≤ a ∧ a < 2147483648) : CK I_X8_setStep yX8_setStep c [vI a] M z (oSetStep a k) := by
  obtain ⟨σ, hs, x⟩ := k
  obtain ⟨m_c, hn, hG, hp, hR⟩ := id h
  have m_c : M c = _ := m_c
  obtain ⟨m_n, n1, n2, n3, n4⟩ := id hn
  have fr : Off M M c (c + 131) := Off.rf
  dsimp only at m_c hn hG hp hR m_n n1 n2 n3 n4
  unfold oSetStep pushed
  try dsimp only
  refine C.intro (pl := [some (.ref c), some (vI a), none]) pn_X8 rfl (fun h => absurd h (by decide)) rfl (Nat.le_of_ble_eq_true rfl) rfl ?_
  by_cases hc : 1 ≤ a ∧ a ≤ 10
  · rw [if_pos hc]
    refine g_iload_n dX8_setStep_0 rfl ?_
    refine z_iconst dX8_setStep_1 ?_
    refine z_icmp_lt (tgt := 11) dX8_setStep_2 (by decide) (by omega) (by omega) (fun c2 => absurd c2 (by omega)) (fun c2 => ?_)
    refine g_iload_n dX8_setStep_5 rfl ?_
    refine z_bipush dX8_setStep_6 (by decide +kernel) ?_
    refine z_icmp_le (tgt := 13) dX8_setStep_8 (by decide) (by omega) (by omega) (fun c8 => ?_) (fun c8 => absurd c8 (by omega))
    refine g_aload_n dX8_setStep_13 rfl ?_
    refine z_callVV dX8_setStep_14 lm_X8_82 lk_X8_remember (x_remember m_c hn hG hp) rfl rfl m_c rfl (mkRoom rfl rfl) (Nat.le_of_ble_eq_true rfl) (Nat.le_of_ble_eq_true rfl) (Nat.le_of_ble_eq_true rfl) (fun M r hp2 => ?_)
    obtain ⟨rfl, m_c, hn, hp, o2⟩ := hp2
    have hR := hR.H o2
    have fr := fr.tr (o2.off.wd (by omega) (by omega))
    obtain ⟨m_n, n1, n2, n3, n4⟩ := id hn
    have m_c : M c = _ := m_c
    refine g_aload_n dX8_setStep_17 rfl ?_
    refine z_getf fl_X8_12 dX8_setStep_18 m_c rfl ?_
    refine z_getf fl_X8_76 dX8_setStep_21 m_n rfl ?_
    refine g_istore_n dX8_setStep_24 rfl (Nat.le_of_ble_eq_true rfl) ?_
    refine g_aload_n dX8_setStep_25 rfl ?_
    refine z_getf fl_X8_12 dX8_setStep_26 m_c rfl ?_
    refine g_iload_n dX8_setStep_29 rfl ?_
    refine z_putf fl_X8_76 dX8_setStep_30 m_n rfl (Nat.le_of_ble_eq_true rfl) rfl rfl (fun M m_n o => ?_)
    have m_c := (o _ (by omega)).trans m_c
    have o1 : Off _ M (c + 1) (c + 2) := fun x hx => o x (by omega)
    have n1 := n1.off o1 (by omega)
    have n2 := n2.off o1 (by omega)
    have n3 := n3.off o1 (by omega)
    have n4 := n4.off o1 (by omega)
    have hp := hp.off o1 (by omega)
    have hR := hR.off o1 (by omega)
    have fr := fr.tr (o1.wd (by omega) (by omega))
    refine g_iload_n dX8_setStep_33 rfl ?_
    exact g_ireturn dX8_setStep_34 rfl (Nat.le_of_ble_eq_true rfl) (Nat.le_of_ble_eq_true rfl) ⟨rfl, rfl, ⟨m_c, ⟨m_n, n1, n2, n3, n4⟩, ⟨⟨hG.1.1, hG.1.2.1, hc, hG.1.2.2.2⟩, hG.2⟩, hp, hR⟩, fr⟩
  · rw [if_neg hc]
    refine g_iload_n dX8_setStep_0 rfl ?_
    refine z_iconst dX8_setStep_1 ?_
    refine z_icmp_lt (tgt := 11) dX8_setStep_2 (by decide) (by omega) (by omega) (fun c2 => ?_) (fun c2 => ?_)
    · refine z_iconst dX8_setStep_11 ?_
      exact g_ireturn dX8_setStep_12 rfl (Nat.le_of_ble_eq_true rfl) (Nat.le_of_ble_eq_true rfl) ⟨rfl, rfl, h, Off.rf⟩
    · refine g_iload_n dX8_setStep_5 rfl ?_
      refine z_bipush dX8_setStep_6 (by decide +kernel) ?_
      refine z_icmp_le (tgt := 13) dX8_setStep_8 (by decide) (by omega) (by omega) (fun c8 => ?_) (fun c8 => ?_)
      · exfalso; omega
      · refine z_iconst dX8_setStep_11 ?_
        exact g_ireturn dX8_setStep_12 rfl (Nat.le_of_ble_eq_true rfl) (Nat.le_of_ble_eq_true rfl) ⟨rfl, rfl, h, Off.rf⟩
set_option maxHeartbeats 1000000 in
theorem c_setLimit {M : pM} {z c : Nat} {k : kk} {a : Int} (h : CC M c k) (h_a : -2147483648 ≤ a ∧ a < 2147483648) : CK I_X8_setLimit yX8_setLimit c [vI a] M z (oSetLimit a k) := by
  obtain ⟨σ, hs, x⟩ := k
  obtain ⟨m_c, hn, hG, hp, hR⟩ := id h
  have m_c : M c = _ := m_c
  obtain ⟨m_n, n1, n2, n3, n4⟩ := id hn
  have fr : Off M M c (c + 131) := Off.rf
  dsimp only at m_c hn hG hp hR m_n n1 n2 n3 n4
  unfold oSetLimit pushed
  try dsimp only
  refine C.intro (pl := [some (.ref c), some (vI a), none]) pn_X8 rfl (fun h => absurd h (by decide)) rfl (Nat.le_of_ble_eq_true rfl) rfl ?_
  by_cases hc : 20 ≤ a ∧ a ≤ 1000
  · rw [if_pos hc]
    refine g_iload_n dX8_setLimit_0 rfl ?_
    refine z_bipush dX8_setLimit_1 (by decide +kernel) ?_
    refine z_icmp_lt (tgt := 13) dX8_setLimit_3 (by decide) (by omega) (by omega) (fun c3 => absurd c3 (by omega)) (fun c3 => ?_)
    refine g_iload_n dX8_setLimit_6 rfl ?_
    refine z_sipush dX8_setLimit_7 (by decide +kernel) ?_
    refine z_icmp_le (tgt := 15) dX8_setLimit_10 (by decide) (by omega) (by omega) (fun c10 => ?_) (fun c10 => absurd c10 (by omega))
    refine g_aload_n dX8_setLimit_15 rfl ?_
    refine z_callVV dX8_setLimit_16 lm_X8_82 lk_X8_remember (x_remember m_c hn hG hp) rfl rfl m_c rfl (mkRoom rfl rfl) (Nat.le_of_ble_eq_true rfl) (Nat.le_of_ble_eq_true rfl) (Nat.le_of_ble_eq_true rfl) (fun M r hp2 => ?_)
    obtain ⟨rfl, m_c, hn, hp, o2⟩ := hp2
    have hR := hR.H o2
    have fr := fr.tr (o2.off.wd (by omega) (by omega))
    obtain ⟨m_n, n1, n2, n3, n4⟩ := id hn
    have m_c : M c = _ := m_c
    refine g_aload_n dX8_setLimit_19 rfl ?_
    refine z_getf fl_X8_12 dX8_setLimit_20 m_c rfl ?_
    refine z_getf fl_X8_79 dX8_setLimit_23 m_n rfl ?_
    refine g_istore_n dX8_setLimit_26 rfl (Nat.le_of_ble_eq_true rfl) ?_
    refine g_aload_n dX8_setLimit_27 rfl ?_
    refine z_getf fl_X8_12 dX8_setLimit_28 m_c rfl ?_
    refine g_iload_n dX8_setLimit_31 rfl ?_
    refine z_putf fl_X8_79 dX8_setLimit_32 m_n rfl (Nat.le_of_ble_eq_true rfl) rfl rfl (fun M m_n o => ?_)
    have m_c := (o _ (by omega)).trans m_c
    have o1 : Off _ M (c + 1) (c + 2) := fun x hx => o x (by omega)
    have n1 := n1.off o1 (by omega)
    have n2 := n2.off o1 (by omega)
    have n3 := n3.off o1 (by omega)
    have n4 := n4.off o1 (by omega)
    have hp := hp.off o1 (by omega)
    have hR := hR.off o1 (by omega)
    have fr := fr.tr (o1.wd (by omega) (by omega))
    refine g_iload_n dX8_setLimit_35 rfl ?_
    exact g_ireturn dX8_setLimit_36 rfl (Nat.le_of_ble_eq_true rfl) (Nat.le_of_ble_eq_true rfl) ⟨rfl, rfl, ⟨m_c, ⟨m_n, n1, n2, n3, n4⟩, ⟨⟨hG.1.1, hG.1.2.1, hG.1.2.2.1, hc⟩, hG.2⟩, hp, hR⟩, fr⟩
  · rw [if_neg hc]
    refine g_iload_n dX8_setLimit_0 rfl ?_
    refine z_bipush dX8_setLimit_1 (by decide +kernel) ?_
    refine z_icmp_lt (tgt := 13) dX8_setLimit_3 (by decide) (by omega) (by omega) (fun c3 => ?_) (fun c3 => ?_)
    · refine z_iconst dX8_setLimit_13 ?_
      exact g_ireturn dX8_setLimit_14 rfl (Nat.le_of_ble_eq_true rfl) (Nat.le_of_ble_eq_true rfl) ⟨rfl, rfl, h, Off.rf⟩
    · refine g_iload_n dX8_setLimit_6 rfl ?_
      refine z_sipush dX8_setLimit_7 (by decide +kernel) ?_
      refine z_icmp_le (tgt := 15) dX8_setLimit_10 (by decide) (by omega) (by omega) (fun c10 => ?_) (fun c10 => ?_)
      · exfalso; omega
      · refine z_iconst dX8_setLimit_13 ?_
        exact g_ireturn dX8_setLimit_14 rfl (Nat.le_of_ble_eq_true rfl) (Nat.le_of_ble_eq_true rfl) ⟨rfl, rfl, h, Off.rf⟩
set_option maxHeartbeats 1000000 in
theorem c_forget {M : pM} {z c : Nat} {k : kk}  (h : CC M c k)  : CK I_X8_forget yX8_forget c [] M z (oForget k) := by
  obtain ⟨σ, hs, x⟩ := k
  obtain ⟨m_c, hn, hG, hp, hR⟩ := id h
  have m_c : M c = _ := m_c
  obtain ⟨m_n, n1, n2, n3, n4⟩ := id hn
  have fr : Off M M c (c + 131) := Off.rf
  dsimp only at m_c hn hG hp hR m_n n1 n2 n3 n4
  unfold oForget pushed
  try dsimp only
  refine C.intro (pl := [some (.ref c), none]) pn_X8 rfl (fun h => absurd h (by decide)) rfl (Nat.le_of_ble_eq_true rfl) rfl ?_
  refine g_aload_n dX8_forget_0 rfl ?_
  refine z_callVV dX8_forget_1 lm_X8_82 lk_X8_remember (x_remember m_c hn hG hp) rfl rfl m_c rfl (mkRoom rfl rfl) (Nat.le_of_ble_eq_true rfl) (Nat.le_of_ble_eq_true rfl) (Nat.le_of_ble_eq_true rfl) (fun M r hp2 => ?_)
  obtain ⟨rfl, m_c, hn, hp, o2⟩ := hp2
  have hR := hR.H o2
  have fr := fr.tr (o2.off.wd (by omega) (by omega))
  obtain ⟨m_n, n1, n2, n3, n4⟩ := id hn
  have m_c : M c = _ := m_c
  refine g_aload_n dX8_forget_4 rfl ?_
  refine z_callVV dX8_forget_5 lm_X8_98 lk_X8_contexts (c_contexts (k := (σ, hpush hs σ, x)) ⟨m_c, ⟨m_n, n1, n2, n3, n4⟩, hG, hp, hR⟩) rfl rfl m_c rfl (mkRoom rfl rfl) (Nat.le_of_ble_eq_true rfl) (Nat.le_of_ble_eq_true rfl) (Nat.le_of_ble_eq_true rfl) (fun M r hp2 => ?_)
  obtain ⟨rfl, ⟨m_c, hn, -, hp, hR⟩, o1⟩ := hp2
  obtain ⟨m_n, n1, n2, n3, n4⟩ := id hn
  have m_c : M c = _ := m_c
  have fr := fr.tr o1
  refine g_istore_n dX8_forget_8 rfl (Nat.le_of_ble_eq_true rfl) ?_
  refine g_aload_n dX8_forget_9 rfl ?_
  refine z_getf fl_X8_12 dX8_forget_10 m_c rfl ?_
  refine z_getf fl_X8_85 dX8_forget_13 m_n rfl ?_
  refine z_callVV dX8_forget_16 lm_X8_89 lk_X4_clear (Md_clear n1) rfl rfl n1.obj rfl (mkRoom rfl rfl) (Nat.le_of_ble_eq_true rfl) (Nat.le_of_ble_eq_true rfl) (Nat.le_of_ble_eq_true rfl) (fun M r hp2 => ?_)
  obtain ⟨rfl, n1, o1⟩ := hp2
  have m_c := (o1 _ (by omega)).trans m_c
  have m_n := (o1 _ (by omega)).trans m_n
  have n2 := n2.off o1 (by omega)
  have n3 := n3.off o1 (by omega)
  have n4 := n4.off o1 (by omega)
  have hp := hp.off o1 (by omega)
  have hR := hR.off o1 (by omega)
  have fr := fr.tr (o1.wd (by omega) (by omega))
  refine g_iload_n dX8_forget_19 rfl ?_
  exact g_ireturn dX8_forget_20 rfl (Nat.le_of_ble_eq_true rfl) (Nat.le_of_ble_eq_true rfl) ⟨rfl, rfl, ⟨m_c, ⟨m_n, n1, n2, n3, n4⟩, ⟨hG.1, okT_nil, hG.2.2⟩, hp, hR⟩, fr⟩
set_option maxHeartbeats 1000000 in
theorem c_type {M : pM} {z c : Nat} {k : kk} {a : Int} (h : CC M c k) (h_a : -2147483648 ≤ a ∧ a < 2147483648) : CK I_X8_type yX8_type c [vI a] M z (oType a k) := by
  obtain ⟨σ, hs, x⟩ := k
  obtain ⟨m_c, hn, hG, hp, hR⟩ := id h
  have m_c : M c = _ := m_c
  obtain ⟨m_n, n1, n2, n3, n4⟩ := id hn
  have fr : Off M M c (c + 131) := Off.rf
  dsimp only at m_c hn hG hp hR m_n n1 n2 n3 n4
  obtain ⟨⟨τ, h1⟩, ⟨hx, hxo⟩, ⟨e, h3⟩, w0, w1, w2, w3, h4⟩ := hR
  have m_tx := hx.obj
  have hxl := hx.len
  unfold oType
  try dsimp only
  refine C.intro (pl := [some (.ref c), some (vI a)]) pn_X8 rfl (fun h => absurd h (by decide)) rfl (Nat.le_of_ble_eq_true rfl) rfl ?_
  by_cases hc : 32 ≤ a ∧ a ≤ 126
  · rw [if_pos hc]
    by_cases hl : x.length < 200
    · rw [if_pos hl]
      refine g_iload_n dX8_type_0 rfl ?_
      refine z_bipush dX8_type_1 (by decide +kernel) ?_
      refine z_icmp_lt (tgt := 12) dX8_type_3 (by decide) (by omega) (by omega) (fun c3 => absurd c3 (by omega)) (fun c3 => ?_)
      refine g_iload_n dX8_type_6 rfl ?_
      refine z_bipush dX8_type_7 (by decide +kernel) ?_
      refine z_icmp_le (tgt := 14) dX8_type_9 (by decide) (by omega) (by omega) (fun c9 => ?_) (fun c9 => absurd c9 (by omega))
      refine g_aload_n dX8_type_14 rfl ?_
      refine z_getf fl_X8_32 dX8_type_15 m_c rfl ?_
      refine z_getf fl_X8_102 dX8_type_18 m_tx rfl ?_
      refine z_sipush dX8_type_21 (by decide +kernel) ?_
      refine z_icmp_lt (tgt := 30) dX8_type_24 (by decide) (by omega) (by omega) (fun c24 => ?_) (fun c24 => absurd c24 (by omega))
      refine g_aload_n dX8_type_30 rfl ?_
      refine z_getf fl_X8_32 dX8_type_31 m_c rfl ?_
      refine g_iload_n dX8_type_34 rfl ?_
      refine z_bipush dX8_type_35 (by decide +kernel) ?_
      refine z_isub dX8_type_37 ?_
      refine z_callVV dX8_type_38 lm_X8_135 lk_X6_push (Row_push hx) rfl rfl hx.obj rfl (mkRoom rfl rfl) (Nat.le_of_ble_eq_true rfl) (Nat.le_of_ble_eq_true rfl) (Nat.le_of_ble_eq_true rfl) (fun M r hp2 => ?_)
      obtain ⟨rfl, hx, o1⟩ := hp2
      rw [if_pos (by omega)] at hx
      have m_c := (o1 _ (by omega)).trans m_c
      have hn := hn.off o1 (by omega)
      have hp := hp.off o1 (by omega)
      have h1 := h1.off o1 (by omega)
      have h3 := h3.off o1 (by omega)
      have h4 := (o1 _ (by omega)).trans h4
      have m_tx := hx.obj
      have fr := fr.tr (o1.wd (by omega) (by omega))
      refine g_aload_n dX8_type_41 rfl ?_
      refine z_getf fl_X8_32 dX8_type_42 m_c rfl ?_
      refine z_getf fl_X8_102 dX8_type_45 m_tx rfl ?_
      exact g_ireturn dX8_type_48 rfl (Nat.le_of_ble_eq_true rfl) (Nat.le_of_ble_eq_true rfl) ⟨rfl, by rw [List.length_append]; rfl, ⟨m_c, hn, hG, hp, ⟨τ, h1⟩, ⟨hx, hxo.snoc (by omega)⟩, ⟨e, h3⟩, w0, w1, w2, w3, h4⟩, fr⟩
    · rw [if_neg hl]
      refine g_iload_n dX8_type_0 rfl ?_
      refine z_bipush dX8_type_1 (by decide +kernel) ?_
      refine z_icmp_lt (tgt := 12) dX8_type_3 (by decide) (by omega) (by omega) (fun c3 => absurd c3 (by omega)) (fun c3 => ?_)
      refine g_iload_n dX8_type_6 rfl ?_
      refine z_bipush dX8_type_7 (by decide +kernel) ?_
      refine z_icmp_le (tgt := 14) dX8_type_9 (by decide) (by omega) (by omega) (fun c9 => ?_) (fun c9 => absurd c9 (by omega))
      refine g_aload_n dX8_type_14 rfl ?_
      refine z_getf fl_X8_32 dX8_type_15 m_c rfl ?_
      refine z_getf fl_X8_102 dX8_type_18 m_tx rfl ?_
      refine z_sipush dX8_type_21 (by decide +kernel) ?_
      refine z_icmp_lt (tgt := 30) dX8_type_24 (by decide) (by omega) (by omega) (fun c24 => absurd c24 (by omega)) (fun c24 => ?_)
      refine z_bipush dX8_type_27 (by decide +kernel) ?_
      exact g_ireturn dX8_type_29 rfl (Nat.le_of_ble_eq_true rfl) (Nat.le_of_ble_eq_true rfl) ⟨rfl, rfl, h, Off.rf⟩
  · rw [if_neg hc]
    refine g_iload_n dX8_type_0 rfl ?_
    refine z_bipush dX8_type_1 (by decide +kernel) ?_
    refine z_icmp_lt (tgt := 12) dX8_type_3 (by decide) (by omega) (by omega) (fun c3 => ?_) (fun c3 => ?_)
    · refine z_iconst dX8_type_12 ?_
      exact g_ireturn dX8_type_13 rfl (Nat.le_of_ble_eq_true rfl) (Nat.le_of_ble_eq_true rfl) ⟨rfl, rfl, h, Off.rf⟩
    · refine g_iload_n dX8_type_6 rfl ?_
      refine z_bipush dX8_type_7 (by decide +kernel) ?_
      refine z_icmp_le (tgt := 14) dX8_type_9 (by decide) (by omega) (by omega) (fun c9 => ?_) (fun c9 => ?_)
      · exfalso; omega
      · refine z_iconst dX8_type_12 ?_
        exact g_ireturn dX8_type_13 rfl (Nat.le_of_ble_eq_true rfl) (Nat.le_of_ble_eq_true rfl) ⟨rfl, rfl, h, Off.rf⟩
set_option maxHeartbeats 1000000 in
theorem c_remove {M : pM} {z c : Nat} {k : kk} {a : Int} (h : CC M c k) (h_a : -2147483648 ≤ a ∧ a < 2147483648) : CK I_X8_remove yX8_remove c [vI a] M z (oRemove a k) := by
  obtain ⟨σ, hs, x⟩ := k
  obtain ⟨m_c, hn, hG, hp, hR⟩ := id h
  have m_c : M c = _ := m_c
  obtain ⟨m_n, n1, n2, n3, n4⟩ := id hn
  have fr : Off M M c (c + 131) := Off.rf
  dsimp only at m_c hn hG hp hR m_n n1 n2 n3 n4
  obtain ⟨⟨τ, h1⟩, ⟨hx, hxo⟩, ⟨e, h3⟩, w0, w1, w2, w3, h4⟩ := hR
  have m_tx := hx.obj
  have hxl := hx.len
  unfold oRemove
  try dsimp only
  refine C.intro (pl := [some (.ref c), some (vI a)]) pn_X8 rfl (fun h => absurd h (by decide)) rfl (Nat.le_of_ble_eq_true rfl) rfl ?_
  by_cases hc : a < 0
  · rw [if_pos hc]
    refine g_iload_n dX8_remove_0 rfl ?_
    refine z_if_ge (tgt := 6) dX8_remove_1 (by decide) (by omega) (fun c1 => absurd c1 (by omega)) (fun c1 => ?_)
    refine z_iconst dX8_remove_4 ?_
    exact g_ireturn dX8_remove_5 rfl (Nat.le_of_ble_eq_true rfl) (Nat.le_of_ble_eq_true rfl) ⟨rfl, rfl, h, Off.rf⟩
  · rw [if_neg hc]
    refine g_iload_n dX8_remove_0 rfl ?_
    refine z_if_ge (tgt := 6) dX8_remove_1 (by decide) (by omega) (fun c1 => ?_) (fun c1 => absurd c1 (by omega))
    refine g_aload_n dX8_remove_6 rfl ?_
    refine z_getf fl_X8_32 dX8_remove_7 m_c rfl ?_
    refine g_iload_n dX8_remove_10 rfl ?_
    refine G.top (v' := vI ((a.toNat : Nat) : Int)) (by rw [Int.toNat_of_nonneg (by omega)]) ?_
    refine z_callVV dX8_remove_11 lm_X8_138 lk_X6_drop (Row_drop (j := a.toNat) hx (by omega)) rfl rfl hx.obj rfl (mkRoom rfl rfl) (Nat.le_of_ble_eq_true rfl) (Nat.le_of_ble_eq_true rfl) (Nat.le_of_ble_eq_true rfl) (fun M r hp2 => ?_)
    obtain ⟨rfl, hx, o1⟩ := hp2
    have m_c := (o1 _ (by omega)).trans m_c
    have hn := hn.off o1 (by omega)
    have hp := hp.off o1 (by omega)
    have h1 := h1.off o1 (by omega)
    have h3 := h3.off o1 (by omega)
    have h4 := (o1 _ (by omega)).trans h4
    have m_tx := hx.obj
    have fr := fr.tr (o1.wd (by omega) (by omega))
    refine g_aload_n dX8_remove_14 rfl ?_
    refine z_getf fl_X8_32 dX8_remove_15 m_c rfl ?_
    refine z_getf fl_X8_102 dX8_remove_18 m_tx rfl ?_
    exact g_ireturn dX8_remove_21 rfl (Nat.le_of_ble_eq_true rfl) (Nat.le_of_ble_eq_true rfl) ⟨rfl, by rw [List.length_take, Nat.min_eq_left (by omega)], ⟨m_c, hn, hG, hp, ⟨τ, h1⟩, ⟨hx, fun y hy => hxo y (List.mem_of_mem_take hy)⟩, ⟨e, h3⟩, w0, w1, w2, w3, h4⟩, fr⟩
set_option maxHeartbeats 1000000 in
theorem c_cut {M : pM} {z c : Nat} {k : kk} {a : Int} (h : CC M c k) (h_a : -2147483648 ≤ a ∧ a < 2147483648) : CK I_X8_cut yX8_cut c [vI a] M z (oCut a k) := by
  obtain ⟨σ, hs, x⟩ := k
  obtain ⟨m_c, hn, hG, hp, hR⟩ := id h
  have m_c : M c = _ := m_c
  obtain ⟨m_n, n1, n2, n3, n4⟩ := id hn
  have fr : Off M M c (c + 131) := Off.rf
  dsimp only at m_c hn hG hp hR m_n n1 n2 n3 n4
  have m_cd := n2.obj
  have hcl := n2.len
  have hcb := hG.2.2.1
  unfold oCut pushed
  try dsimp only
  refine C.intro (pl := [some (.ref c), some (vI a)]) pn_X8 rfl (fun h => absurd h (by decide)) rfl (Nat.le_of_ble_eq_true rfl) rfl ?_
  by_cases hc : 1 ≤ a ∧ a ≤ 400
  · rw [if_pos hc]
    by_cases hl : a ≤ (sC σ).length
    · rw [if_pos hl]
      refine g_iload_n dX8_cut_0 rfl ?_
      refine z_iconst dX8_cut_1 ?_
      refine z_icmp_lt (tgt := 12) dX8_cut_2 (by decide) (by omega) (by omega) (fun c2 => absurd c2 (by omega)) (fun c2 => ?_)
      refine g_iload_n dX8_cut_5 rfl ?_
      refine z_sipush dX8_cut_6 (by decide +kernel) ?_
      refine z_icmp_le (tgt := 14) dX8_cut_9 (by decide) (by omega) (by omega) (fun c9 => ?_) (fun c9 => absurd c9 (by omega))
      refine g_iload_n dX8_cut_14 rfl ?_
      refine g_aload_n dX8_cut_15 rfl ?_
      refine z_getf fl_X8_12 dX8_cut_16 m_c rfl ?_
      refine z_getf fl_X8_161 dX8_cut_19 m_n rfl ?_
      refine z_getf fl_X8_102 dX8_cut_22 m_cd rfl ?_
      refine z_icmp_le (tgt := 31) dX8_cut_25 (by decide) (by omega) (by omega) (fun c25 => ?_) (fun c25 => absurd c25 (by omega))
      refine g_aload_n dX8_cut_31 rfl ?_
      refine z_callVV dX8_cut_32 lm_X8_82 lk_X8_remember (x_remember m_c hn hG hp) rfl rfl m_c rfl (mkRoom rfl rfl) (Nat.le_of_ble_eq_true rfl) (Nat.le_of_ble_eq_true rfl) (Nat.le_of_ble_eq_true rfl) (fun M r hp2 => ?_)
      obtain ⟨rfl, m_c, hn, hp, o2⟩ := hp2
      have hR := hR.H o2
      have fr := fr.tr (o2.off.wd (by omega) (by omega))
      obtain ⟨m_n, n1, n2, n3, n4⟩ := id hn
      have m_c : M c = _ := m_c
      have m_cd := n2.obj
      refine g_aload_n dX8_cut_35 rfl ?_
      refine z_getf fl_X8_12 dX8_cut_36 m_c rfl ?_
      refine z_getf fl_X8_161 dX8_cut_39 m_n rfl ?_
      refine g_iload_n dX8_cut_42 rfl ?_
      refine G.top (v' := vI ((a.toNat : Nat) : Int)) (by rw [Int.toNat_of_nonneg (by omega)]) ?_
      refine z_callVV dX8_cut_43 lm_X8_138 lk_X6_drop (Row_drop (j := a.toNat) n2 (by omega)) rfl rfl n2.obj rfl (mkRoom rfl rfl) (Nat.le_of_ble_eq_true rfl) (Nat.le_of_ble_eq_true rfl) (Nat.le_of_ble_eq_true rfl) (fun M r hp2 => ?_)
      obtain ⟨rfl, n2, o1⟩ := hp2
      have m_c := (o1 _ (by omega)).trans m_c
      have m_n := (o1 _ (by omega)).trans m_n
      have n1 := n1.off o1 (by omega)
      have n3 := n3.off o1 (by omega)
      have n4 := n4.off o1 (by omega)
      have hp := hp.off o1 (by omega)
      have hR := hR.off o1 (by omega)
      have fr := fr.tr (o1.wd (by omega) (by omega))
      have m_cd := n2.obj
      refine g_aload_n dX8_cut_46 rfl ?_
      refine z_getf fl_X8_12 dX8_cut_47 m_c rfl ?_
      refine z_getf fl_X8_161 dX8_cut_50 m_n rfl ?_
      refine z_getf fl_X8_102 dX8_cut_53 m_cd rfl ?_
      exact g_ireturn dX8_cut_56 rfl (Nat.le_of_ble_eq_true rfl) (Nat.le_of_ble_eq_true rfl) ⟨rfl, by rw [List.length_take, Nat.min_eq_left (by omega)], ⟨m_c, ⟨m_n, n1, n2, n3, n4⟩, ⟨hG.1, hG.2.1, fun y hy => hcb y (List.mem_of_mem_take hy), hG.2.2.2⟩, hp, hR⟩, fr⟩
    · rw [if_neg hl]
      refine g_iload_n dX8_cut_0 rfl ?_
      refine z_iconst dX8_cut_1 ?_
      refine z_icmp_lt (tgt := 12) dX8_cut_2 (by decide) (by omega) (by omega) (fun c2 => absurd c2 (by omega)) (fun c2 => ?_)
      refine g_iload_n dX8_cut_5 rfl ?_
      refine z_sipush dX8_cut_6 (by decide +kernel) ?_
      refine z_icmp_le (tgt := 14) dX8_cut_9 (by decide) (by omega) (by omega) (fun c9 => ?_) (fun c9 => absurd c9 (by omega))
      refine g_iload_n dX8_cut_14 rfl ?_
      refine g_aload_n dX8_cut_15 rfl ?_
      refine z_getf fl_X8_12 dX8_cut_16 m_c rfl ?_
      refine z_getf fl_X8_161 dX8_cut_19 m_n rfl ?_
      refine z_getf fl_X8_102 dX8_cut_22 m_cd rfl ?_
      refine z_icmp_le (tgt := 31) dX8_cut_25 (by decide) (by omega) (by omega) (fun c25 => absurd c25 (by omega)) (fun c25 => ?_)
      refine z_bipush dX8_cut_28 (by decide +kernel) ?_
      exact g_ireturn dX8_cut_30 rfl (Nat.le_of_ble_eq_true rfl) (Nat.le_of_ble_eq_true rfl) ⟨rfl, rfl, h, Off.rf⟩
  · rw [if_neg hc]
    refine g_iload_n dX8_cut_0 rfl ?_
    refine z_iconst dX8_cut_1 ?_
    refine z_icmp_lt (tgt := 12) dX8_cut_2 (by decide) (by omega) (by omega) (fun c2 => ?_) (fun c2 => ?_)
    · refine z_iconst dX8_cut_12 ?_
      exact g_ireturn dX8_cut_13 rfl (Nat.le_of_ble_eq_true rfl) (Nat.le_of_ble_eq_true rfl) ⟨rfl, rfl, h, Off.rf⟩
    · refine g_iload_n dX8_cut_5 rfl ?_
      refine z_sipush dX8_cut_6 (by decide +kernel) ?_
      refine z_icmp_le (tgt := 14) dX8_cut_9 (by decide) (by omega) (by omega) (fun c9 => ?_) (fun c9 => ?_)
      · exfalso; omega
      · refine z_iconst dX8_cut_12 ?_
        exact g_ireturn dX8_cut_13 rfl (Nat.le_of_ble_eq_true rfl) (Nat.le_of_ble_eq_true rfl) ⟨rfl, rfl, h, Off.rf⟩
set_option maxHeartbeats 1000000 in
theorem c_append {M : pM} {z c : Nat} {k : kk} {a : Int} (h : CC M c k) (h_a : -2147483648 ≤ a ∧ a < 2147483648) : CK I_X8_append yX8_append c [vI a] M z (oAppend a k) := by
  obtain ⟨σ, hs, x⟩ := k
  obtain ⟨m_c, hn, hG, hp, hR⟩ := id h
  have m_c : M c = _ := m_c
  obtain ⟨m_n, n1, n2, n3, n4⟩ := id hn
  have fr : Off M M c (c + 131) := Off.rf
  dsimp only at m_c hn hG hp hR m_n n1 n2 n3 n4
  have m_cd := n2.obj
  have hcl := n2.len
  have hcb := hG.2.2.1
  unfold oAppend pushed
  try dsimp only
  refine C.intro (pl := [some (.ref c), some (vI a)]) pn_X8 rfl (fun h => absurd h (by decide)) rfl (Nat.le_of_ble_eq_true rfl) rfl ?_
  by_cases hc : 0 ≤ a ∧ a ≤ 255
  · rw [if_pos hc]
    by_cases hl : (sC σ).length < 400
    · rw [if_pos hl]
      refine g_iload_n dX8_append_0 rfl ?_
      refine z_if_lt (tgt := 11) dX8_append_1 (by decide) (by omega) (fun c1 => absurd c1 (by omega)) (fun c1 => ?_)
      refine g_iload_n dX8_append_4 rfl ?_
      refine z_sipush dX8_append_5 (by decide +kernel) ?_
      refine z_icmp_le (tgt := 13) dX8_append_8 (by decide) (by omega) (by omega) (fun c8 => ?_) (fun c8 => absurd c8 (by omega))
      refine g_aload_n dX8_append_13 rfl ?_
      refine z_getf fl_X8_12 dX8_append_14 m_c rfl ?_
      refine z_getf fl_X8_161 dX8_append_17 m_n rfl ?_
      refine z_getf fl_X8_102 dX8_append_20 m_cd rfl ?_
      refine z_sipush dX8_append_23 (by decide +kernel) ?_
      refine z_icmp_lt (tgt := 32) dX8_append_26 (by decide) (by omega) (by omega) (fun c26 => ?_) (fun c26 => absurd c26 (by omega))
      refine g_aload_n dX8_append_32 rfl ?_
      refine z_callVV dX8_append_33 lm_X8_82 lk_X8_remember (x_remember m_c hn hG hp) rfl rfl m_c rfl (mkRoom rfl rfl) (Nat.le_of_ble_eq_true rfl) (Nat.le_of_ble_eq_true rfl) (Nat.le_of_ble_eq_true rfl) (fun M r hp2 => ?_)
      obtain ⟨rfl, m_c, hn, hp, o2⟩ := hp2
      have hR := hR.H o2
      have fr := fr.tr (o2.off.wd (by omega) (by omega))
      obtain ⟨m_n, n1, n2, n3, n4⟩ := id hn
      have m_c : M c = _ := m_c
      have m_cd := n2.obj
      refine g_aload_n dX8_append_36 rfl ?_
      refine z_getf fl_X8_12 dX8_append_37 m_c rfl ?_
      refine z_getf fl_X8_161 dX8_append_40 m_n rfl ?_
      refine g_iload_n dX8_append_43 rfl ?_
      refine z_callVV dX8_append_44 lm_X8_135 lk_X6_push (Row_push n2) rfl rfl n2.obj rfl (mkRoom rfl rfl) (Nat.le_of_ble_eq_true rfl) (Nat.le_of_ble_eq_true rfl) (Nat.le_of_ble_eq_true rfl) (fun M r hp2 => ?_)
      obtain ⟨rfl, n2, o1⟩ := hp2
      rw [if_pos hl] at n2
      have m_c := (o1 _ (by omega)).trans m_c
      have m_n := (o1 _ (by omega)).trans m_n
      have n1 := n1.off o1 (by omega)
      have n3 := n3.off o1 (by omega)
      have n4 := n4.off o1 (by omega)
      have hp := hp.off o1 (by omega)
      have hR := hR.off o1 (by omega)
      have fr := fr.tr (o1.wd (by omega) (by omega))
      have m_cd := n2.obj
      refine g_aload_n dX8_append_47 rfl ?_
      refine z_getf fl_X8_12 dX8_append_48 m_c rfl ?_
      refine z_getf fl_X8_161 dX8_append_51 m_n rfl ?_
      refine z_getf fl_X8_102 dX8_append_54 m_cd rfl ?_
      exact g_ireturn dX8_append_57 rfl (Nat.le_of_ble_eq_true rfl) (Nat.le_of_ble_eq_true rfl) ⟨rfl, by rw [List.length_append]; rfl, ⟨m_c, ⟨m_n, n1, n2, n3, n4⟩, ⟨hG.1, hG.2.1, hcb.snoc (by omega), hG.2.2.2⟩, hp, hR⟩, fr⟩
    · rw [if_neg hl]
      refine g_iload_n dX8_append_0 rfl ?_
      refine z_if_lt (tgt := 11) dX8_append_1 (by decide) (by omega) (fun c1 => absurd c1 (by omega)) (fun c1 => ?_)
      refine g_iload_n dX8_append_4 rfl ?_
      refine z_sipush dX8_append_5 (by decide +kernel) ?_
      refine z_icmp_le (tgt := 13) dX8_append_8 (by decide) (by omega) (by omega) (fun c8 => ?_) (fun c8 => absurd c8 (by omega))
      refine g_aload_n dX8_append_13 rfl ?_
      refine z_getf fl_X8_12 dX8_append_14 m_c rfl ?_
      refine z_getf fl_X8_161 dX8_append_17 m_n rfl ?_
      refine z_getf fl_X8_102 dX8_append_20 m_cd rfl ?_
      refine z_sipush dX8_append_23 (by decide +kernel) ?_
      refine z_icmp_lt (tgt := 32) dX8_append_26 (by decide) (by omega) (by omega) (fun c26 => absurd c26 (by omega)) (fun c26 => ?_)
      refine z_bipush dX8_append_29 (by decide +kernel) ?_
      exact g_ireturn dX8_append_31 rfl (Nat.le_of_ble_eq_true rfl) (Nat.le_of_ble_eq_true rfl) ⟨rfl, rfl, h, Off.rf⟩
  · rw [if_neg hc]
    refine g_iload_n dX8_append_0 rfl ?_
    refine z_if_lt (tgt := 11) dX8_append_1 (by decide) (by omega) (fun c1 => ?_) (fun c1 => ?_)
    · refine z_iconst dX8_append_11 ?_
      exact g_ireturn dX8_append_12 rfl (Nat.le_of_ble_eq_true rfl) (Nat.le_of_ble_eq_true rfl) ⟨rfl, rfl, h, Off.rf⟩
    · refine g_iload_n dX8_append_4 rfl ?_
      refine z_sipush dX8_append_5 (by decide +kernel) ?_
      refine z_icmp_le (tgt := 13) dX8_append_8 (by decide) (by omega) (by omega) (fun c8 => ?_) (fun c8 => ?_)
      · exfalso; omega
      · refine z_iconst dX8_append_11 ?_
        exact g_ireturn dX8_append_12 rfl (Nat.le_of_ble_eq_true rfl) (Nat.le_of_ble_eq_true rfl) ⟨rfl, rfl, h, Off.rf⟩
set_option maxHeartbeats 1000000 in
theorem c_flip {M : pM} {z c : Nat} {k : kk} {a : Int} {b : Int} (h : CC M c k) (h_a : -2147483648 ≤ a ∧ a < 2147483648) (h_b : -2147483648 ≤ b ∧ b < 2147483648) : CK I_X8_flip yX8_flip c [vI a, vI b] M z (oFlip a b k) := by
  obtain ⟨σ, hs, x⟩ := k
  obtain ⟨m_c, hn, hG, hp, hR⟩ := id h
  have m_c : M c = _ := m_c
  obtain ⟨m_n, n1, n2, n3, n4⟩ := id hn
  have fr : Off M M c (c + 131) := Off.rf
  dsimp only at m_c hn hG hp hR m_n n1 n2 n3 n4
  have m_cd := n2.obj
  have hcl := n2.len
  have hcb := hG.2.2.1
  unfold oFlip pushed
  try dsimp only
  refine C.intro (pl := [some (.ref c), some (vI a), some (vI b)]) pn_X8 rfl (fun h => absurd h (by decide)) rfl (Nat.le_of_ble_eq_true rfl) rfl ?_
  by_cases hc : (0 ≤ a ∧ a < (sC σ).length) ∧ 0 ≤ b ∧ b ≤ 7
  · rw [if_pos hc]
    have hbg := hcb.get a.toNat
    have hx1 : (((sC σ).getD a.toNat 0).toNat ^^^ 2 ^ b.toNat) < 256 := Nat.xor_lt_two_pow (n := 8) (by omega) (Nat.pow_lt_pow_right (by decide) (by omega))
    have ha : a = ((a.toNat : Nat) : Int) := by omega
    have hbb : b = ((b.toNat : Nat) : Int) := by omega
    refine g_aload_n dX8_flip_0 rfl ?_
    refine z_getf fl_X8_12 dX8_flip_1 m_c rfl ?_
    refine z_getf fl_X8_161 dX8_flip_4 m_n rfl ?_
    refine g_iload_n dX8_flip_7 rfl ?_
    refine z_callVR dX8_flip_8 lm_X8_166 lk_X6_has (Row_has_t n2 (by omega)) rfl rfl n2.obj rfl (mkRoom rfl rfl) (Nat.le_of_ble_eq_true rfl) (Nat.le_of_ble_eq_true rfl) (Nat.le_of_ble_eq_true rfl) ?_
    refine z_if_eq (tgt := 24) dX8_flip_11 (by decide) (by omega) (fun c11 => absurd c11 (by omega)) (fun c11 => ?_)
    refine g_iload_n dX8_flip_14 rfl ?_
    refine z_if_lt (tgt := 24) dX8_flip_15 (by decide) (by omega) (fun c15 => absurd c15 (by omega)) (fun c15 => ?_)
    refine g_iload_n dX8_flip_18 rfl ?_
    refine z_bipush dX8_flip_19 (by decide +kernel) ?_
    refine z_icmp_le (tgt := 26) dX8_flip_21 (by decide) (by omega) (by omega) (fun c21 => ?_) (fun c21 => absurd c21 (by omega))
    refine g_aload_n dX8_flip_26 rfl ?_
    refine z_callVV dX8_flip_27 lm_X8_82 lk_X8_remember (x_remember m_c hn hG hp) rfl rfl m_c rfl (mkRoom rfl rfl) (Nat.le_of_ble_eq_true rfl) (Nat.le_of_ble_eq_true rfl) (Nat.le_of_ble_eq_true rfl) (fun M r hp2 => ?_)
    obtain ⟨rfl, m_c, hn, hp, o2⟩ := hp2
    have hR := hR.H o2
    have fr := fr.tr (o2.off.wd (by omega) (by omega))
    obtain ⟨m_n, n1, n2, n3, n4⟩ := id hn
    have m_c : M c = _ := m_c
    have m_cd := n2.obj
    refine g_aload_n dX8_flip_30 rfl ?_
    refine z_getf fl_X8_12 dX8_flip_31 m_c rfl ?_
    refine z_getf fl_X8_161 dX8_flip_34 m_n rfl ?_
    refine g_iload_n dX8_flip_37 rfl ?_
    refine G.top (v' := vI ((a.toNat : Nat) : Int)) (by rw [← ha]) ?_
    refine g_aload_n dX8_flip_38 rfl ?_
    refine z_getf fl_X8_12 dX8_flip_39 m_c rfl ?_
    refine z_getf fl_X8_161 dX8_flip_42 m_n rfl ?_
    refine g_iload_n dX8_flip_45 rfl ?_
    refine G.top (v' := vI ((a.toNat : Nat) : Int)) (by rw [← ha]) ?_
    refine z_callVR dX8_flip_46 lm_X8_105 lk_X6_item (Row_item (j := a.toNat) n2 (by omega)) rfl rfl n2.obj rfl (mkRoom rfl rfl) (Nat.le_of_ble_eq_true rfl) (Nat.le_of_ble_eq_true rfl) (Nat.le_of_ble_eq_true rfl) ?_
    refine z_iconst dX8_flip_49 ?_
    refine g_iload_n dX8_flip_50 rfl ?_
    refine g_ishl dX8_flip_51 ?_
    refine G.top (v' := vI (((2 : Nat) ^ b.toNat : Nat) : Int)) (by rw [hbb, iZ_shl 1 (by omega), Int.one_mul, Int.toNat_natCast]; push_cast; rfl) ?_
    refine g_ixor dX8_flip_52 ?_
    refine G.top (v' := vI ((((sC σ).getD a.toNat 0).toNat ^^^ 2 ^ b.toNat : Nat) : Int)) (by rw [show (sC σ).getD a.toNat 0 = ((((sC σ).getD a.toNat 0).toNat : Nat) : Int) by omega, iZ_xor, Int.toNat_natCast]) ?_
    refine z_callVV dX8_flip_53 lm_X8_183 lk_X6_put (Row_put (j := a.toNat) n2 (by omega)) rfl rfl n2.obj rfl (mkRoom rfl rfl) (Nat.le_of_ble_eq_true rfl) (Nat.le_of_ble_eq_true rfl) (Nat.le_of_ble_eq_true rfl) (fun M r hp2 => ?_)
    obtain ⟨rfl, n2, o1⟩ := hp2
    have m_c := (o1 _ (by omega)).trans m_c
    have m_n := (o1 _ (by omega)).trans m_n
    have n1 := n1.off o1 (by omega)
    have n3 := n3.off o1 (by omega)
    have n4 := n4.off o1 (by omega)
    have hp := hp.off o1 (by omega)
    have hR := hR.off o1 (by omega)
    have fr := fr.tr (o1.wd (by omega) (by omega))
    have m_cd := n2.obj
    refine g_aload_n dX8_flip_56 rfl ?_
    refine z_getf fl_X8_12 dX8_flip_57 m_c rfl ?_
    refine z_getf fl_X8_161 dX8_flip_60 m_n rfl ?_
    refine g_iload_n dX8_flip_63 rfl ?_
    refine G.top (v' := vI ((a.toNat : Nat) : Int)) (by rw [← ha]) ?_
    refine z_callVR dX8_flip_64 lm_X8_105 lk_X6_item (Row_item (j := a.toNat) n2 (by omega)) rfl rfl n2.obj rfl (mkRoom rfl rfl) (Nat.le_of_ble_eq_true rfl) (Nat.le_of_ble_eq_true rfl) (Nat.le_of_ble_eq_true rfl) ?_
    exact g_ireturn dX8_flip_67 rfl (Nat.le_of_ble_eq_true rfl) (Nat.le_of_ble_eq_true rfl) ⟨rfl, by rw [List.getD_eq_getElem?_getD, List.getElem?_set_self (by omega)]; rfl, ⟨m_c, ⟨m_n, n1, n2, n3, n4⟩, ⟨hG.1, hG.2.1, hcb.set (by omega), hG.2.2.2⟩, hp, hR⟩, fr⟩
  · rw [if_neg hc]
    by_cases hh : 0 ≤ a ∧ a < (sC σ).length
    · refine g_aload_n dX8_flip_0 rfl ?_
      refine z_getf fl_X8_12 dX8_flip_1 m_c rfl ?_
      refine z_getf fl_X8_161 dX8_flip_4 m_n rfl ?_
      refine g_iload_n dX8_flip_7 rfl ?_
      refine z_callVR dX8_flip_8 lm_X8_166 lk_X6_has (Row_has_t n2 (by omega)) rfl rfl n2.obj rfl (mkRoom rfl rfl) (Nat.le_of_ble_eq_true rfl) (Nat.le_of_ble_eq_true rfl) (Nat.le_of_ble_eq_true rfl) ?_
      refine z_if_eq (tgt := 24) dX8_flip_11 (by decide) (by omega) (fun c11 => absurd c11 (by omega)) (fun c11 => ?_)
      refine g_iload_n dX8_flip_14 rfl ?_
      refine z_if_lt (tgt := 24) dX8_flip_15 (by decide) (by omega) (fun c15 => ?_) (fun c15 => ?_)
      · refine z_iconst dX8_flip_24 ?_
        exact g_ireturn dX8_flip_25 rfl (Nat.le_of_ble_eq_true rfl) (Nat.le_of_ble_eq_true rfl) ⟨rfl, rfl, h, Off.rf⟩
      · refine g_iload_n dX8_flip_18 rfl ?_
        refine z_bipush dX8_flip_19 (by decide +kernel) ?_
        refine z_icmp_le (tgt := 26) dX8_flip_21 (by decide) (by omega) (by omega) (fun c21 => ?_) (fun c21 => ?_)
        · exfalso; omega
        · refine z_iconst dX8_flip_24 ?_
          exact g_ireturn dX8_flip_25 rfl (Nat.le_of_ble_eq_true rfl) (Nat.le_of_ble_eq_true rfl) ⟨rfl, rfl, h, Off.rf⟩
    · refine g_aload_n dX8_flip_0 rfl ?_
      refine z_getf fl_X8_12 dX8_flip_1 m_c rfl ?_
      refine z_getf fl_X8_161 dX8_flip_4 m_n rfl ?_
      refine g_iload_n dX8_flip_7 rfl ?_
      refine z_callVR dX8_flip_8 lm_X8_166 lk_X6_has (Row_has_f n2 (by omega) (by omega)) rfl rfl n2.obj rfl (mkRoom rfl rfl) (Nat.le_of_ble_eq_true rfl) (Nat.le_of_ble_eq_true rfl) (Nat.le_of_ble_eq_true rfl) ?_
      refine z_if_eq (tgt := 24) dX8_flip_11 (by decide) (by omega) (fun c11 => ?_) (fun c11 => absurd c11 (by omega))
      refine z_iconst dX8_flip_24 ?_
      exact g_ireturn dX8_flip_25 rfl (Nat.le_of_ble_eq_true rfl) (Nat.le_of_ble_eq_true rfl) ⟨rfl, rfl, h, Off.rf⟩
