/-! fingerprint -/
set_option maxHeartbeats 1000000 in
theorem c_fingerprint {M : pM} {z c : Nat} {k : kk} (h : CC M c k) : CW I_X8_fingerprint yX8_fingerprint [.ref c] M z (fun M' r => r = some (vL (fp3 k.1)) ∧ CC M' c k ∧ Off M M' c (c + 131)) := by
  obtain ⟨σ, hs, x⟩ := k
  obtain ⟨m_c, hn, hG, hp, hR⟩ := id h
  have m_c : M c = _ := m_c
  obtain ⟨m_n, n1, n2, n3, n4⟩ := id hn
  have fr : Off M M c (c + 131) := Off.rf
  dsimp only at m_c hn hG hp hR m_n n1 n2 n3 n4
  refine C.intro (pl := [some (.ref c), none, none, none]) pn_X8 rfl (fun h => absurd h (by decide)) rfl (Nat.le_of_ble_eq_true rfl) rfl ?_
  have loop2 : ∀ (j i : Nat) (M1 : pM), i + j = (sR σ).length → CC M1 c (σ, hs, x) → Off M M1 c (c + 131) → G I_X8_fingerprint 0 0 (fun M' z' r => z' = z ∧ r = some (vL (fp3 σ)) ∧ CC M' c (σ, hs, x) ∧ Off M M' c (c + 131)) 0 0 181 [some (.ref c), some (vL (((sR σ).take i).foldl (fun p b => 31 * p + b + 32) (fp2 σ))), none, some (vI (i : Int))] [] M1 z := by
    intro j
    induction j with
    | zero =>
      intro i M hi h fr
      have e : i = (sR σ).length := by omega
      subst e
      obtain ⟨m_c, hn, hG, hp, hR⟩ := id h
      have m_c : M c = _ := m_c
      obtain ⟨m_n, n1, n2, n3, n4⟩ := id hn
      try dsimp only at m_c hn hG hp hR m_n n1 n2 n3 n4
      have m_cd := n2.obj
      have m_rs := n4.obj
      have m_cd := n2.obj
      have m_rs := n4.obj
      have hS := hG.1
      have hs1 := hS.1
      have hs2 := hS.2.1
      have hs3 := hS.2.2.1
      have hs4 := hS.2.2.2
      have hl1 := n1.len
      have hl2 := n2.len.1
      have hl4 := n4.len.1
      have hl3 := n3.2.1.len.1
      rw [List.length_map] at hl3
      refine g_iload_n dX8_fingerprint_181 rfl ?_
      refine g_aload_n dX8_fingerprint_182 rfl ?_
      refine z_getf fl_X8_12 dX8_fingerprint_183 m_c rfl ?_
      refine z_getf fl_X8_176 dX8_fingerprint_186 m_n rfl ?_
      refine z_getf fl_X8_102 dX8_fingerprint_189 m_rs rfl ?_
      refine z_icmp_ge (tgt := 224) dX8_fingerprint_192 (by decide) (by omega) (by omega) (fun c192 => ?_) (fun c192 => absurd c192 (by omega))
      refine g_lload_n dX8_fingerprint_224 rfl ?_
      exact g_lreturn dX8_fingerprint_225 rfl (Nat.le_of_ble_eq_true rfl) (Nat.le_of_ble_eq_true rfl) ⟨rfl, by rw [List.take_length]; rfl, h, fr⟩
    | succ j ih =>
      intro i M hi h fr
      have ih2 := ih (i + 1) M (by omega) h fr
      have hi2 : i < (sR σ).length := by omega
      rw [List.take_succ, List.getElem?_eq_getElem hi2, Option.toList_some, List.foldl_append, List.foldl_cons, List.foldl_nil] at ih2
      have eg : (sR σ).getD i 0 = (sR σ)[i] := by rw [List.getD_eq_getElem?_getD, List.getElem?_eq_getElem hi2]; rfl
      rw [← eg] at ih2
      obtain ⟨m_c, hn, hG, hp, hR⟩ := id h
      have m_c : M c = _ := m_c
      obtain ⟨m_n, n1, n2, n3, n4⟩ := id hn
      try dsimp only at m_c hn hG hp hR m_n n1 n2 n3 n4
      have m_cd := n2.obj
      have m_rs := n4.obj
      have hS := hG.1
      have hs1 := hS.1
      have hs2 := hS.2.1
      have hs3 := hS.2.2.1
      have hs4 := hS.2.2.2
      have hl1 := n1.len
      have hl2 := n2.len.1
      have hl4 := n4.len.1
      have hl3 := n3.2.1.len.1
      rw [List.length_map] at hl3
      have m_cd := n2.obj
      have m_rs := n4.obj
      have hb := hG.2.2.2.1.get i
      refine g_iload_n dX8_fingerprint_181 rfl ?_
      refine g_aload_n dX8_fingerprint_182 rfl ?_
      refine z_getf fl_X8_12 dX8_fingerprint_183 m_c rfl ?_
      refine z_getf fl_X8_176 dX8_fingerprint_186 m_n rfl ?_
      refine z_getf fl_X8_102 dX8_fingerprint_189 m_rs rfl ?_
      refine z_icmp_ge (tgt := 224) dX8_fingerprint_192 (by decide) (by omega) (by omega) (fun c192 => absurd c192 (by omega)) (fun c192 => ?_)
      refine z_ldc2 (31) dX8_fingerprint_195 kc_X8_208 rfl ?_
      refine g_lload_n dX8_fingerprint_198 rfl ?_
      refine z_lmul dX8_fingerprint_199 ?_
      refine g_aload_n dX8_fingerprint_200 rfl ?_
      refine z_getf fl_X8_12 dX8_fingerprint_201 m_c rfl ?_
      refine z_getf fl_X8_176 dX8_fingerprint_204 m_n rfl ?_
      refine g_iload_n dX8_fingerprint_207 rfl ?_
      refine z_callVR dX8_fingerprint_208 lm_X8_105 lk_X6_item (Row_item (j := i) n4 (by omega)) rfl rfl n4.obj rfl (mkRoom rfl rfl) (Nat.le_of_ble_eq_true rfl) (Nat.le_of_ble_eq_true rfl) (Nat.le_of_ble_eq_true rfl) ?_
      refine z_i2l dX8_fingerprint_211 (by omega) ?_
      refine z_ladd dX8_fingerprint_212 ?_
      refine z_ldc2 (32) dX8_fingerprint_213 kc_X8_219 rfl ?_
      refine z_ladd dX8_fingerprint_216 ?_
      refine g_lstore_n dX8_fingerprint_217 rfl (Nat.le_of_ble_eq_true rfl) ?_
      refine z_iinc dX8_fingerprint_218 rfl (Nat.le_of_ble_eq_true rfl) ?_
      refine g_goto (tgt := 181) dX8_fingerprint_221 (by decide) ?_
      exact ih2
  have loop1 : ∀ (j i : Nat) (M1 : pM), i + j = (sC σ).length → CC M1 c (σ, hs, x) → Off M M1 c (c + 131) → G I_X8_fingerprint 0 0 (fun M' z' r => z' = z ∧ r = some (vL (fp3 σ)) ∧ CC M' c (σ, hs, x) ∧ Off M M' c (c + 131)) 0 0 98 [some (.ref c), some (vL (((sC σ).take i).foldl (fun p b => 31 * p + b) (fp0 σ))), none, some (vI (i : Int))] [] M1 z := by
    intro j
    induction j with
    | zero =>
      intro i M hi h fr
      have e : i = (sC σ).length := by omega
      subst e
      obtain ⟨m_c, hn, hG, hp, hR⟩ := id h
      have m_c : M c = _ := m_c
      obtain ⟨m_n, n1, n2, n3, n4⟩ := id hn
      try dsimp only at m_c hn hG hp hR m_n n1 n2 n3 n4
      have m_cd := n2.obj
      have m_rs := n4.obj
      have m_cd := n2.obj
      have m_rs := n4.obj
      have hS := hG.1
      have hs1 := hS.1
      have hs2 := hS.2.1
      have hs3 := hS.2.2.1
      have hs4 := hS.2.2.2
      have hl1 := n1.len
      have hl2 := n2.len.1
      have hl4 := n4.len.1
      have hl3 := n3.2.1.len.1
      rw [List.length_map] at hl3
      refine g_iload_n dX8_fingerprint_98 rfl ?_
      refine g_aload_n dX8_fingerprint_99 rfl ?_
      refine z_getf fl_X8_12 dX8_fingerprint_100 m_c rfl ?_
      refine z_getf fl_X8_161 dX8_fingerprint_103 m_n rfl ?_
      refine z_getf fl_X8_102 dX8_fingerprint_106 m_cd rfl ?_
      refine z_icmp_ge (tgt := 137) dX8_fingerprint_109 (by decide) (by omega) (by omega) (fun c109 => ?_) (fun c109 => absurd c109 (by omega))
      refine z_ldc2 (31) dX8_fingerprint_137 kc_X8_208 rfl ?_
      refine g_lload_n dX8_fingerprint_140 rfl ?_
      refine z_lmul dX8_fingerprint_141 ?_
      refine g_aload_n dX8_fingerprint_142 rfl ?_
      refine z_callVV dX8_fingerprint_143 lm_X8_213 lk_X8_coded (c_coded h) rfl rfl m_c rfl (mkRoom rfl rfl) (Nat.le_of_ble_eq_true rfl) (Nat.le_of_ble_eq_true rfl) (Nat.le_of_ble_eq_true rfl) (fun M r hp2 => ?_)
      unfold oCoded at hp2
      try dsimp only at hp2
      obtain ⟨rfl, h, o1⟩ := hp2
      have fr := fr.tr o1
      obtain ⟨m_c, hn, hG, hp, hR⟩ := id h
      have m_c : M c = _ := m_c
      obtain ⟨m_n, n1, n2, n3, n4⟩ := id hn
      try dsimp only at m_c hn hG hp hR m_n n1 n2 n3 n4
      have m_cd := n2.obj
      have m_rs := n4.obj
      have hS := hG.1
      have hs1 := hS.1
      have hs2 := hS.2.1
      have hs3 := hS.2.2.1
      have hs4 := hS.2.2.2
      have hl1 := n1.len
      have hl2 := n2.len.1
      have hl4 := n4.len.1
      have hl3 := n3.2.1.len.1
      rw [List.length_map] at hl3
      refine z_i2l dX8_fingerprint_146 (by omega) ?_
      refine z_ladd dX8_fingerprint_147 ?_
      refine g_lstore_n dX8_fingerprint_148 rfl (Nat.le_of_ble_eq_true rfl) ?_
      refine z_ldc2 (31) dX8_fingerprint_149 kc_X8_208 rfl ?_
      refine g_lload_n dX8_fingerprint_152 rfl ?_
      refine z_lmul dX8_fingerprint_153 ?_
      refine g_aload_n dX8_fingerprint_154 rfl ?_
      refine z_callVV dX8_fingerprint_155 lm_X8_216 lk_X8_cost (c_cost h) rfl rfl m_c rfl (mkRoom rfl rfl) (Nat.le_of_ble_eq_true rfl) (Nat.le_of_ble_eq_true rfl) (Nat.le_of_ble_eq_true rfl) (fun M r hp2 => ?_)
      unfold oCost at hp2
      try dsimp only at hp2
      obtain ⟨rfl, h, o1⟩ := hp2
      have fr := fr.tr o1
      obtain ⟨m_c, hn, hG, hp, hR⟩ := id h
      have m_c : M c = _ := m_c
      obtain ⟨m_n, n1, n2, n3, n4⟩ := id hn
      try dsimp only at m_c hn hG hp hR m_n n1 n2 n3 n4
      have m_cd := n2.obj
      have m_rs := n4.obj
      have hS := hG.1
      have hs1 := hS.1
      have hs2 := hS.2.1
      have hs3 := hS.2.2.1
      have hs4 := hS.2.2.2
      have hl1 := n1.len
      have hl2 := n2.len.1
      have hl4 := n4.len.1
      have hl3 := n3.2.1.len.1
      rw [List.length_map] at hl3
      have hw := wr_rng ((sA σ).map (fun x => x.1)).sum
      refine G.top (v' := vI (wr ((sA σ).map (fun x : ac => x.1)).sum)) (congrArg Value.int (iZ_wr ((sA σ).map (fun x : ac => x.1)).sum)) ?_
      refine z_i2l dX8_fingerprint_158 (by omega) ?_
      refine z_ladd dX8_fingerprint_159 ?_
      refine g_lstore_n dX8_fingerprint_160 rfl (Nat.le_of_ble_eq_true rfl) ?_
      refine z_ldc2 (31) dX8_fingerprint_161 kc_X8_208 rfl ?_
      refine g_lload_n dX8_fingerprint_164 rfl ?_
      refine z_lmul dX8_fingerprint_165 ?_
      refine g_aload_n dX8_fingerprint_166 rfl ?_
      refine z_getf fl_X8_12 dX8_fingerprint_167 m_c rfl ?_
      refine z_getf fl_X8_176 dX8_fingerprint_170 m_n rfl ?_
      refine z_getf fl_X8_102 dX8_fingerprint_173 m_rs rfl ?_
      refine z_i2l dX8_fingerprint_176 (by omega) ?_
      refine z_ladd dX8_fingerprint_177 ?_
      refine g_lstore_n dX8_fingerprint_178 rfl (Nat.le_of_ble_eq_true rfl) ?_
      refine z_iconst dX8_fingerprint_179 ?_
      refine g_istore_n dX8_fingerprint_180 rfl (Nat.le_of_ble_eq_true rfl) ?_
      have lp := loop2 (sR σ).length 0 M (by omega) h fr
      rw [List.take_zero, List.foldl_nil] at lp
      unfold fp2 fp1 at lp
      rw [List.take_length]
      exact lp
    | succ j ih =>
      intro i M hi h fr
      have ih2 := ih (i + 1) M (by omega) h fr
      have hi2 : i < (sC σ).length := by omega
      rw [List.take_succ, List.getElem?_eq_getElem hi2, Option.toList_some, List.foldl_append, List.foldl_cons, List.foldl_nil] at ih2
      have eg : (sC σ).getD i 0 = (sC σ)[i] := by rw [List.getD_eq_getElem?_getD, List.getElem?_eq_getElem hi2]; rfl
      rw [← eg] at ih2
      obtain ⟨m_c, hn, hG, hp, hR⟩ := id h
      have m_c : M c = _ := m_c
      obtain ⟨m_n, n1, n2, n3, n4⟩ := id hn
      try dsimp only at m_c hn hG hp hR m_n n1 n2 n3 n4
      have m_cd := n2.obj
      have m_rs := n4.obj
      have hS := hG.1
      have hs1 := hS.1
      have hs2 := hS.2.1
      have hs3 := hS.2.2.1
      have hs4 := hS.2.2.2
      have hl1 := n1.len
      have hl2 := n2.len.1
      have hl4 := n4.len.1
      have hl3 := n3.2.1.len.1
      rw [List.length_map] at hl3
      have m_cd := n2.obj
      have m_rs := n4.obj
      have hb := hG.2.2.1.get i
      refine g_iload_n dX8_fingerprint_98 rfl ?_
      refine g_aload_n dX8_fingerprint_99 rfl ?_
      refine z_getf fl_X8_12 dX8_fingerprint_100 m_c rfl ?_
      refine z_getf fl_X8_161 dX8_fingerprint_103 m_n rfl ?_
      refine z_getf fl_X8_102 dX8_fingerprint_106 m_cd rfl ?_
      refine z_icmp_ge (tgt := 137) dX8_fingerprint_109 (by decide) (by omega) (by omega) (fun c109 => absurd c109 (by omega)) (fun c109 => ?_)
      refine z_ldc2 (31) dX8_fingerprint_112 kc_X8_208 rfl ?_
      refine g_lload_n dX8_fingerprint_115 rfl ?_
      refine z_lmul dX8_fingerprint_116 ?_
      refine g_aload_n dX8_fingerprint_117 rfl ?_
      refine z_getf fl_X8_12 dX8_fingerprint_118 m_c rfl ?_
      refine z_getf fl_X8_161 dX8_fingerprint_121 m_n rfl ?_
      refine g_iload_n dX8_fingerprint_124 rfl ?_
      refine z_callVR dX8_fingerprint_125 lm_X8_105 lk_X6_item (Row_item (j := i) n2 (by omega)) rfl rfl n2.obj rfl (mkRoom rfl rfl) (Nat.le_of_ble_eq_true rfl) (Nat.le_of_ble_eq_true rfl) (Nat.le_of_ble_eq_true rfl) ?_
      refine z_i2l dX8_fingerprint_128 (by omega) ?_
      refine z_ladd dX8_fingerprint_129 ?_
      refine g_lstore_n dX8_fingerprint_130 rfl (Nat.le_of_ble_eq_true rfl) ?_
      refine z_iinc dX8_fingerprint_131 rfl (Nat.le_of_ble_eq_true rfl) ?_
      refine g_goto (tgt := 98) dX8_fingerprint_134 (by decide) ?_
      exact ih2
  have rest : G I_X8_fingerprint 0 0 (fun M' z' r => z' = z ∧ r = some (vL (fp3 σ)) ∧ CC M' c (σ, hs, x) ∧ Off M M' c (c + 131)) 0 0 39 [some (.ref c), some (vL (31 * 67 + sO σ)), none, none] [vI (sX σ), vL (31 * (31 * 67 + sO σ))] M z := by
    have m_cd := n2.obj
    have m_rs := n4.obj
    have hS := hG.1
    have hs1 := hS.1
    have hs2 := hS.2.1
    have hs3 := hS.2.2.1
    have hs4 := hS.2.2.2
    have hl1 := n1.len
    have hl2 := n2.len.1
    have hl4 := n4.len.1
    have hl3 := n3.2.1.len.1
    rw [List.length_map] at hl3
    refine z_i2l dX8_fingerprint_39 (by omega) ?_
    refine z_ladd dX8_fingerprint_40 ?_
    refine g_lstore_n dX8_fingerprint_41 rfl (Nat.le_of_ble_eq_true rfl) ?_
    refine z_ldc2 (31) dX8_fingerprint_42 kc_X8_208 rfl ?_
    refine g_lload_n dX8_fingerprint_45 rfl ?_
    refine z_lmul dX8_fingerprint_46 ?_
    refine g_aload_n dX8_fingerprint_47 rfl ?_
    refine z_getf fl_X8_12 dX8_fingerprint_48 m_c rfl ?_
    refine z_getf fl_X8_76 dX8_fingerprint_51 m_n rfl ?_
    refine z_i2l dX8_fingerprint_54 (by omega) ?_
    refine z_ladd dX8_fingerprint_55 ?_
    refine g_lstore_n dX8_fingerprint_56 rfl (Nat.le_of_ble_eq_true rfl) ?_
    refine z_ldc2 (31) dX8_fingerprint_57 kc_X8_208 rfl ?_
    refine g_lload_n dX8_fingerprint_60 rfl ?_
    refine z_lmul dX8_fingerprint_61 ?_
    refine g_aload_n dX8_fingerprint_62 rfl ?_
    refine z_getf fl_X8_12 dX8_fingerprint_63 m_c rfl ?_
    refine z_getf fl_X8_79 dX8_fingerprint_66 m_n rfl ?_
    refine z_i2l dX8_fingerprint_69 (by omega) ?_
    refine z_ladd dX8_fingerprint_70 ?_
    refine g_lstore_n dX8_fingerprint_71 rfl (Nat.le_of_ble_eq_true rfl) ?_
    refine z_ldc2 (31) dX8_fingerprint_72 kc_X8_208 rfl ?_
    refine g_lload_n dX8_fingerprint_75 rfl ?_
    refine z_lmul dX8_fingerprint_76 ?_
    refine g_aload_n dX8_fingerprint_77 rfl ?_
    refine z_callVV dX8_fingerprint_78 lm_X8_98 lk_X8_contexts (c_contexts h) rfl rfl m_c rfl (mkRoom rfl rfl) (Nat.le_of_ble_eq_true rfl) (Nat.le_of_ble_eq_true rfl) (Nat.le_of_ble_eq_true rfl) (fun M r hp2 => ?_)
    unfold oContexts at hp2
    try dsimp only at hp2
    obtain ⟨rfl, h, o1⟩ := hp2
    have fr := fr.tr o1
    obtain ⟨m_c, hn, hG, hp, hR⟩ := id h
    have m_c : M c = _ := m_c
    obtain ⟨m_n, n1, n2, n3, n4⟩ := id hn
    try dsimp only at m_c hn hG hp hR m_n n1 n2 n3 n4
    have m_cd := n2.obj
    have m_rs := n4.obj
    have hS := hG.1
    have hs1 := hS.1
    have hs2 := hS.2.1
    have hs3 := hS.2.2.1
    have hs4 := hS.2.2.2
    have hl1 := n1.len
    have hl2 := n2.len.1
    have hl4 := n4.len.1
    have hl3 := n3.2.1.len.1
    rw [List.length_map] at hl3
    refine z_i2l dX8_fingerprint_81 (by omega) ?_
    refine z_ladd dX8_fingerprint_82 ?_
    refine g_lstore_n dX8_fingerprint_83 rfl (Nat.le_of_ble_eq_true rfl) ?_
    refine z_ldc2 (31) dX8_fingerprint_84 kc_X8_208 rfl ?_
    refine g_lload_n dX8_fingerprint_87 rfl ?_
    refine z_lmul dX8_fingerprint_88 ?_
    refine g_aload_n dX8_fingerprint_89 rfl ?_
    refine z_callVV dX8_fingerprint_90 lm_X8_210 lk_X8_bytes (c_bytes h) rfl rfl m_c rfl (mkRoom rfl rfl) (Nat.le_of_ble_eq_true rfl) (Nat.le_of_ble_eq_true rfl) (Nat.le_of_ble_eq_true rfl) (fun M r hp2 => ?_)
    unfold oBytes at hp2
    try dsimp only at hp2
    obtain ⟨rfl, h, o1⟩ := hp2
    have fr := fr.tr o1
    obtain ⟨m_c, hn, hG, hp, hR⟩ := id h
    have m_c : M c = _ := m_c
    obtain ⟨m_n, n1, n2, n3, n4⟩ := id hn
    try dsimp only at m_c hn hG hp hR m_n n1 n2 n3 n4
    have m_cd := n2.obj
    have m_rs := n4.obj
    have hS := hG.1
    have hs1 := hS.1
    have hs2 := hS.2.1
    have hs3 := hS.2.2.1
    have hs4 := hS.2.2.2
    have hl1 := n1.len
    have hl2 := n2.len.1
    have hl4 := n4.len.1
    have hl3 := n3.2.1.len.1
    rw [List.length_map] at hl3
    refine z_i2l dX8_fingerprint_93 (by omega) ?_
    refine z_ladd dX8_fingerprint_94 ?_
    refine g_lstore_n dX8_fingerprint_95 rfl (Nat.le_of_ble_eq_true rfl) ?_
    refine z_iconst dX8_fingerprint_96 ?_
    refine g_istore_n dX8_fingerprint_97 rfl (Nat.le_of_ble_eq_true rfl) ?_
    have lp := loop1 (sC σ).length 0 M (by omega) h fr
    rw [List.take_zero, List.foldl_nil] at lp
    unfold fp0 at lp
    exact lp
  have m_cd := n2.obj
  have m_rs := n4.obj
  have hS := hG.1
  have hs1 := hS.1
  have hs2 := hS.2.1
  have hs3 := hS.2.2.1
  have hs4 := hS.2.2.2
  have hl1 := n1.len
  have hl2 := n2.len.1
  have hl4 := n4.len.1
  have hl3 := n3.2.1.len.1
  rw [List.length_map] at hl3
  refine z_ldc2 (67) dX8_fingerprint_0 kc_X8_206 rfl ?_
  refine g_lstore_n dX8_fingerprint_3 rfl (Nat.le_of_ble_eq_true rfl) ?_
  refine z_ldc2 (31) dX8_fingerprint_4 kc_X8_208 rfl ?_
  refine g_lload_n dX8_fingerprint_7 rfl ?_
  refine z_lmul dX8_fingerprint_8 ?_
  refine g_aload_n dX8_fingerprint_9 rfl ?_
  refine z_getf fl_X8_12 dX8_fingerprint_10 m_c rfl ?_
  refine z_getf fl_X8_73 dX8_fingerprint_13 m_n rfl ?_
  refine z_i2l dX8_fingerprint_16 (by omega) ?_
  refine z_ladd dX8_fingerprint_17 ?_
  refine g_lstore_n dX8_fingerprint_18 rfl (Nat.le_of_ble_eq_true rfl) ?_
  refine z_ldc2 (31) dX8_fingerprint_19 kc_X8_208 rfl ?_
  refine g_lload_n dX8_fingerprint_22 rfl ?_
  refine z_lmul dX8_fingerprint_23 ?_
  refine g_aload_n dX8_fingerprint_24 rfl ?_
  refine z_getf fl_X8_12 dX8_fingerprint_25 m_c rfl ?_
  refine z_getf fl_X8_94 dX8_fingerprint_28 m_n rfl ?_
  refine z_if_eq (tgt := 38) dX8_fingerprint_31 (by decide) (by omega) (fun c31 => ?_) (fun c31 => ?_)
  · refine z_iconst dX8_fingerprint_38 ?_
    have e : sX σ = 0 := by omega
    rw [e] at rest
    exact rest
  · refine z_iconst dX8_fingerprint_34 ?_
    refine g_goto (tgt := 39) dX8_fingerprint_35 (by decide) ?_
    have e : sX σ = 1 := by omega
    rw [e] at rest
    exact rest
