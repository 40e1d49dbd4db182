/-! the law's check of an encode() -/
/-- the object behind an encode() that finds room -/
def encd (k : kk) : kk := pushed k (sO k.1, sX k.1, sS k.1, sL k.1, (crun (sO k.1) (sX k.1) (sS k.1) (sL k.1) k.2.2 (sT k.1) (k.2.2.length + 1)).1, (cend (sO k.1) (sX k.1) (sS k.1) (sL k.1) k.2.2 (sT k.1)).2.2.1, (crun (sO k.1) (sX k.1) (sS k.1) (sL k.1) k.2.2 (sT k.1) (k.2.2.length + 1)).2.1, (cend (sO k.1) (sX k.1) (sS k.1) (sL k.1) k.2.2 (sT k.1)).2.2.2, sR k.1)
theorem encd_C (k : kk) : sC (encd k).1 = (cend (sO k.1) (sX k.1) (sS k.1) (sL k.1) k.2.2 (sT k.1)).2.2.1 := rfl
theorem encd_A (k : kk) : sA (encd k).1 = (crun (sO k.1) (sX k.1) (sS k.1) (sL k.1) k.2.2 (sT k.1) (k.2.2.length + 1)).2.1 := rfl
theorem encd_T (k : kk) : sT (encd k).1 = (crun (sO k.1) (sX k.1) (sS k.1) (sL k.1) k.2.2 (sT k.1) (k.2.2.length + 1)).1 := rfl
theorem encd_G (k : kk) : sG (encd k).1 = (cend (sO k.1) (sX k.1) (sS k.1) (sL k.1) k.2.2 (sT k.1)).2.2.2 := rfl
/-- what is told of an encode() -/
def encF (x : List Int) (k1 : kk) : Prop := (sC k1.1).length ≤ 400 ∧ (∀ m : Nat, (sC k1.1).length = m + 1 → (sC k1.1).getD m 0 ≠ 0) ∧ okB (sC k1.1) ∧ (sA k1.1).length = x.length + 1 ∧ (∀ (i : Nat) (h : i < (sA k1.1).length), okL x i (sA k1.1)[i]) ∧ (0 ≤ sG k1.1 ∧ sG k1.1 ≤ 5000) ∧ 1 ≤ (sT k1.1).length ∧ (sT k1.1).length ≤ 250
theorem encd_F {k : kk} (hG : okG k.1) (hx : okX k.2.2) (h29 : k.2.2.length ≤ 29) : oEncode k = (((sC (encd k).1).length : Int), encd k) ∧ encF k.2.2 (encd k) := by
  have h1 := cend_len (exc := sX k.1) hG.1 hx hG.2.1
  have h2 := crun_ok (exc := sX k.1) hG.1 hx hG.2.1 (k.2.2.length + 1) (Nat.le_refl _)
  have h3 := crun_acc (exc := sX k.1) hG.1 hx hG.2.1 (k.2.2.length + 1) (Nat.le_refl _)
  have h4 := cend_ok (exc := sX k.1) hG.1 hx (by omega) hG.2.1
  refine ⟨?_, ?_, ?_, ?_, ?_, ?_, ?_, ?_, ?_⟩
  · unfold oEncode
    rw [if_neg (by omega)]
    rfl
  · rw [encd_C]; omega
  · rw [encd_C]
    intro m hm
    exact strip_last _ _ rfl m hm
  · rw [encd_C]; exact h4.1
  · rw [encd_A]; exact h2.2.1
  · rw [encd_A]; exact h3
  · rw [encd_G]; omega
  · rw [encd_T, crun_1]; exact incr_len _ _ _ _ _ _
  · rw [encd_T]; exact h2.1.1
theorem cb_e {k : kk} {a : Int} (h : 0 ≤ a ∧ a < (sC k.1).length) : oCodeByte a k = ((sC k.1).getD a.toNat 0, k) := by
  unfold oCodeByte
  rw [if_pos h]
theorem ac_0 {k : kk} {j : Nat} (h : j < (sA k.1).length) : oAccount (j : Int) 0 k = ((sA k.1)[j].1, k) := by
  unfold oAccount
  rw [if_pos (by omega), if_pos rfl, Int.toNat_natCast, getD_map _ _ h]
theorem ac_1 {k : kk} {j : Nat} (h : j < (sA k.1).length) : oAccount (j : Int) 1 k = ((sA k.1)[j].2.1, k) := by
  unfold oAccount
  rw [if_pos (by omega), if_neg (by omega), if_pos rfl, Int.toNat_natCast, getD_map _ _ h]
theorem ac_2 {k : kk} {j : Nat} (h : j < (sA k.1).length) : oAccount (j : Int) 2 k = ((sA k.1)[j].2.2.1, k) := by
  unfold oAccount
  rw [if_pos (by omega), if_neg (by omega), if_neg (by omega), if_pos rfl, Int.toNat_natCast, getD_map _ _ h]
theorem ac_3 {k : kk} {j : Nat} (h : j < (sA k.1).length) : oAccount (j : Int) 3 k = ((sA k.1)[j].2.2.2, k) := by
  unfold oAccount
  rw [if_pos (by omega), if_neg (by omega), if_neg (by omega), if_neg (by omega), if_pos rfl, Int.toNat_natCast, getD_map _ _ h]
theorem sum_take (A : List ac) {j : Nat} (h : j < A.length) : ((A.map (fun x => x.1)).take (j + 1)).sum = ((A.map (fun x => x.1)).take j).sum + A[j].1 := by
  rw [List.take_add_one, List.getElem?_eq_getElem (by rw [List.length_map]; exact h), List.getElem_map, List.sum_append]
  simp
set_option maxHeartbeats 4000000 in
theorem x_codes {M : pM} {z c : Nat} {k : kk} {n : Nat} (hC : CC M c k) (hn : k.2.2.length = n) (h29 : n ≤ 29) : CW I_L_codes yL_codes [.ref c, vI (n : Int)] M z (fun M' r => r = some (vI 1) ∧ CC M' c (encd k) ∧ Off M M' c (c + 131)) := by
  obtain ⟨hG, hc1, hc2, hc3, hc4, hc5, hc6⟩ := hC.facts
  have m_c : M c = _ := hC.1
  have fr : Off M M c (c + 131) := Off.rf
  obtain ⟨f0, f1, f2, f3, f4, f5, f6, f7, f8⟩ := encd_F hG hc5 (by omega)
  have hsl := sy_lt hc5
  have hsi := fun (j : Nat) (h : j < n) => sy_in hc5 (k := j) (by omega)
  have hsx := fun (j : Nat) => hc5.get j
  have hse := sy_end k.2.2
  rw [hn] at f4 hse
  generalize k.2.2 = x at hsl hsi hsx hse f5
  generalize encd k = k1 at f0 f1 f2 f3 f4 f5 f6 f7 f8 ⊢
  refine C.intro (pl := [some (.ref c), some (vI (n : Int)), none, none, none, none, none, none, none]) pn_L rfl (fun h => absurd h (by decide)) rfl (Nat.le_of_ble_eq_true rfl) rfl ?_
  have loop : ∀ (u j : Nat) (M1 : pM), j + u = n + 1 → CC M1 c k1 → Off M M1 c (c + 131) → ∀ K5 K6 K7 K8 : Option Value, G I_L_codes 0 0 (fun M' z' r => z' = z ∧ r = some (vI 1) ∧ CC M' c (k1) ∧ Off M M' c (c + 131)) 0 0 55 [some (.ref c), some (vI (n : Int)), some (vI ((sC k1.1).length : Int)), some (vI (((sA k1.1).map (fun x => x.1)).take j).sum), some (vI (j : Int)), K5, K6, K7, K8] [] M1 z := by
    intro u
    induction u with
    | zero =>
      intro j M hj hC fr K5 K6 K7 K8
      have m_c : M c = _ := hC.1
      rw [List.take_of_length_le (by rw [List.length_map]; omega)]
      refine g_iload dL_codes_55 rfl ?_
      refine g_iload_n dL_codes_57 rfl ?_
      refine z_icmp_gt (tgt := 183) dL_codes_58 (by decide) (by omega) (by omega) (fun c58 => ?_) (fun c58 => absurd c58 (by omega))
      refine g_aload_n dL_codes_183 rfl ?_
      refine z_callVV dL_codes_184 lm_L_78 lk_X8_cost ((c_cost hC).as (k' := k1) (v := ((sA k1.1).map (fun x => x.1)).sum) (rfl)) rfl rfl m_c rfl (mkRoom rfl rfl) (Nat.le_of_ble_eq_true rfl) (Nat.le_of_ble_eq_true rfl) (Nat.le_of_ble_eq_true rfl) (fun M r hp => ?_)
      obtain ⟨rfl, hC, o1⟩ := hp
      have m_c : M c = _ := hC.1
      have fr := fr.tr o1
      refine g_iload_n dL_codes_187 rfl ?_
      refine g_icmp_ne (tgt := 220) dL_codes_188 (by decide) (fun h => absurd rfl h) (fun _ => ?_)
      refine g_aload_n dL_codes_191 rfl ?_
      refine z_callVV dL_codes_192 lm_L_81 lk_X8_longestCarry ((c_longest hC).as (k' := k1) (v := (sG k1.1)) (rfl)) rfl rfl m_c rfl (mkRoom rfl rfl) (Nat.le_of_ble_eq_true rfl) (Nat.le_of_ble_eq_true rfl) (Nat.le_of_ble_eq_true rfl) (fun M r hp => ?_)
      obtain ⟨rfl, hC, o1⟩ := hp
      have m_c : M c = _ := hC.1
      have fr := fr.tr o1
      refine z_if_lt (tgt := 220) dL_codes_195 (by decide) (by omega) (fun c195 => absurd c195 (by omega)) (fun c195 => ?_)
      refine g_aload_n dL_codes_198 rfl ?_
      refine z_callVV dL_codes_199 lm_L_84 lk_X8_contexts ((c_contexts hC).as (k' := k1) (v := ((sT k1.1).length : Int)) (rfl)) rfl rfl m_c rfl (mkRoom rfl rfl) (Nat.le_of_ble_eq_true rfl) (Nat.le_of_ble_eq_true rfl) (Nat.le_of_ble_eq_true rfl) (fun M r hp => ?_)
      obtain ⟨rfl, hC, o1⟩ := hp
      have m_c : M c = _ := hC.1
      have fr := fr.tr o1
      refine z_iconst dL_codes_202 ?_
      refine z_icmp_lt (tgt := 220) dL_codes_203 (by decide) (by omega) (by omega) (fun c203 => absurd c203 (by omega)) (fun c203 => ?_)
      refine g_aload_n dL_codes_206 rfl ?_
      refine z_callVV dL_codes_207 lm_L_84 lk_X8_contexts ((c_contexts hC).as (k' := k1) (v := ((sT k1.1).length : Int)) (rfl)) rfl rfl m_c rfl (mkRoom rfl rfl) (Nat.le_of_ble_eq_true rfl) (Nat.le_of_ble_eq_true rfl) (Nat.le_of_ble_eq_true rfl) (fun M r hp => ?_)
      obtain ⟨rfl, hC, o1⟩ := hp
      have m_c : M c = _ := hC.1
      have fr := fr.tr o1
      refine z_sipush dL_codes_210 (by decide +kernel) ?_
      refine z_icmp_gt (tgt := 220) dL_codes_213 (by decide) (by omega) (by omega) (fun c213 => absurd c213 (by omega)) (fun c213 => ?_)
      refine z_iconst dL_codes_216 ?_
      refine g_goto (tgt := 221) dL_codes_217 (by decide) ?_
      exact g_zreturn dL_codes_221 rfl (by first | rfl | decide) (Nat.le_of_ble_eq_true rfl) (Nat.le_of_ble_eq_true rfl) ⟨rfl, rfl, hC, fr⟩
    | succ u ih =>
      intro j M hj hC fr K5 K6 K7 K8
      have m_c : M c = _ := hC.1
      have hjA : j < (sA k1.1).length := by omega
      obtain ⟨⟨a1, a2⟩, ⟨b1, b2⟩, ⟨d1, d2, d3⟩, d4⟩ := f5 j hjA
      have hs := hsl j
      have ih2 := ih (j + 1)
      rw [sum_take _ hjA] at ih2
      refine g_iload dL_codes_55 rfl ?_
      refine g_iload_n dL_codes_57 rfl ?_
      refine z_icmp_gt (tgt := 183) dL_codes_58 (by decide) (by omega) (by omega) (fun c58 => absurd c58 (by omega)) (fun c58 => ?_)
      refine g_aload_n dL_codes_61 rfl ?_
      refine g_iload dL_codes_62 rfl ?_
      refine z_iconst dL_codes_64 ?_
      refine z_callVV dL_codes_65 lm_L_63 lk_X8_account ((c_account hC (by omega) (by omega)).as (k' := k1) (v := ((sA k1.1)[j].1)) (ac_0 hjA)) rfl rfl m_c rfl (mkRoom rfl rfl) (Nat.le_of_ble_eq_true rfl) (Nat.le_of_ble_eq_true rfl) (Nat.le_of_ble_eq_true rfl) (fun M r hp => ?_)
      obtain ⟨rfl, hC, o1⟩ := hp
      have m_c : M c = _ := hC.1
      have fr := fr.tr o1
      refine g_istore dL_codes_68 (Nat.le_of_ble_eq_true rfl) ?_
      refine g_aload_n dL_codes_70 rfl ?_
      refine g_iload dL_codes_71 rfl ?_
      refine z_iconst dL_codes_73 ?_
      refine z_callVV dL_codes_74 lm_L_63 lk_X8_account ((c_account hC (by omega) (by omega)).as (k' := k1) (v := ((sA k1.1)[j].2.1)) (ac_1 hjA)) rfl rfl m_c rfl (mkRoom rfl rfl) (Nat.le_of_ble_eq_true rfl) (Nat.le_of_ble_eq_true rfl) (Nat.le_of_ble_eq_true rfl) (fun M r hp => ?_)
      obtain ⟨rfl, hC, o1⟩ := hp
      have m_c : M c = _ := hC.1
      have fr := fr.tr o1
      refine g_istore dL_codes_77 (Nat.le_of_ble_eq_true rfl) ?_
      refine g_aload_n dL_codes_79 rfl ?_
      refine g_iload dL_codes_80 rfl ?_
      refine z_iconst dL_codes_82 ?_
      refine z_callVV dL_codes_83 lm_L_63 lk_X8_account ((c_account hC (by omega) (by omega)).as (k' := k1) (v := ((sA k1.1)[j].2.2.1)) (ac_2 hjA)) rfl rfl m_c rfl (mkRoom rfl rfl) (Nat.le_of_ble_eq_true rfl) (Nat.le_of_ble_eq_true rfl) (Nat.le_of_ble_eq_true rfl) (fun M r hp => ?_)
      obtain ⟨rfl, hC, o1⟩ := hp
      have m_c : M c = _ := hC.1
      have fr := fr.tr o1
      refine g_istore dL_codes_86 (Nat.le_of_ble_eq_true rfl) ?_
      refine g_aload_n dL_codes_88 rfl ?_
      refine g_iload dL_codes_89 rfl ?_
      refine z_iconst dL_codes_91 ?_
      refine z_callVV dL_codes_92 lm_L_63 lk_X8_account ((c_account hC (by omega) (by omega)).as (k' := k1) (v := ((sA k1.1)[j].2.2.2)) (ac_3 hjA)) rfl rfl m_c rfl (mkRoom rfl rfl) (Nat.le_of_ble_eq_true rfl) (Nat.le_of_ble_eq_true rfl) (Nat.le_of_ble_eq_true rfl) (fun M r hp => ?_)
      obtain ⟨rfl, hC, o1⟩ := hp
      have m_c : M c = _ := hC.1
      have fr := fr.tr o1
      refine g_istore dL_codes_95 (Nat.le_of_ble_eq_true rfl) ?_
      refine g_iload dL_codes_97 rfl ?_
      refine z_if_lt (tgt := 170) dL_codes_99 (by decide) (by omega) (fun c99 => absurd c99 (by omega)) (fun c99 => ?_)
      refine g_iload dL_codes_102 rfl ?_
      refine z_if_lt (tgt := 170) dL_codes_104 (by decide) (by omega) (fun c104 => absurd c104 (by omega)) (fun c104 => ?_)
      refine g_iload dL_codes_107 rfl ?_
      refine z_iconst dL_codes_109 ?_
      refine z_icmp_gt (tgt := 170) dL_codes_110 (by decide) (by omega) (by omega) (fun c110 => absurd c110 (by omega)) (fun c110 => ?_)
      refine g_iload dL_codes_113 rfl ?_
      refine z_iconst dL_codes_115 ?_
      refine z_icmp_lt (tgt := 170) dL_codes_116 (by decide) (by omega) (by omega) (fun c116 => absurd c116 (by omega)) (fun c116 => ?_)
      refine g_iload dL_codes_119 rfl ?_
      refine z_iconst dL_codes_121 ?_
      refine z_icmp_gt (tgt := 170) dL_codes_122 (by decide) (by omega) (by omega) (fun c122 => absurd c122 (by omega)) (fun c122 => ?_)
      refine g_iload dL_codes_125 rfl ?_
      refine g_iload dL_codes_127 rfl ?_
      refine z_icmp_gt (tgt := 170) dL_codes_129 (by decide) (by omega) (by omega) (fun c129 => absurd c129 (by omega)) (fun c129 => ?_)
      refine g_iload dL_codes_132 rfl ?_
      refine z_if_lt (tgt := 170) dL_codes_134 (by decide) (by omega) (fun c134 => absurd c134 (by omega)) (fun c134 => ?_)
      refine g_iload dL_codes_137 rfl ?_
      refine z_bipush dL_codes_139 (by decide +kernel) ?_
      refine z_icmp_gt (tgt := 170) dL_codes_141 (by decide) (by omega) (by omega) (fun c141 => absurd c141 (by omega)) (fun c141 => ?_)
      refine g_iload dL_codes_144 rfl ?_
      refine g_iload_n dL_codes_146 rfl ?_
      refine z_icmp_ne (tgt := 154) dL_codes_147 (by decide) (by omega) (by omega) (fun c147 => ?_) (fun c147 => ?_)
      · have hs1 : (sy x j : Int) < 95 := by have := hsi j (by omega); have := hsx j; omega
        refine z_iconst dL_codes_154 ?_
        refine g_iload dL_codes_155 rfl ?_
        refine z_bipush dL_codes_157 (by decide +kernel) ?_
        refine z_icmp_ne (tgt := 166) dL_codes_159 (by decide) (by omega) (by omega) (fun c159 => ?_) (fun c159 => absurd c159 (by omega))
        refine z_iconst dL_codes_166 ?_
        refine z_icmp_eq (tgt := 172) dL_codes_167 (by decide) (by omega) (by omega) (fun c167 => ?_) (fun c167 => absurd c167 (by omega))
        refine g_iload_n dL_codes_172 rfl ?_
        refine g_iload dL_codes_173 rfl ?_
        refine z_iadd dL_codes_175 ?_
        refine g_istore_n dL_codes_176 rfl (Nat.le_of_ble_eq_true rfl) ?_
        refine z_iinc dL_codes_177 rfl (Nat.le_of_ble_eq_true rfl) ?_
        refine g_goto (tgt := 55) dL_codes_180 (by decide) ?_
        exact ih2 M (by omega) hC fr _ _ _ _
      · have hs1 : (sy x j : Int) = 95 := by rw [show j = n by omega, hse]; rfl
        refine z_iconst dL_codes_150 ?_
        refine g_goto (tgt := 155) dL_codes_151 (by decide) ?_
        refine g_iload dL_codes_155 rfl ?_
        refine z_bipush dL_codes_157 (by decide +kernel) ?_
        refine z_icmp_ne (tgt := 166) dL_codes_159 (by decide) (by omega) (by omega) (fun c159 => absurd c159 (by omega)) (fun c159 => ?_)
        refine z_iconst dL_codes_162 ?_
        refine g_goto (tgt := 167) dL_codes_163 (by decide) ?_
        refine z_icmp_eq (tgt := 172) dL_codes_167 (by decide) (by omega) (by omega) (fun c167 => ?_) (fun c167 => absurd c167 (by omega))
        refine g_iload_n dL_codes_172 rfl ?_
        refine g_iload dL_codes_173 rfl ?_
        refine z_iadd dL_codes_175 ?_
        refine g_istore_n dL_codes_176 rfl (Nat.le_of_ble_eq_true rfl) ?_
        refine z_iinc dL_codes_177 rfl (Nat.le_of_ble_eq_true rfl) ?_
        refine g_goto (tgt := 55) dL_codes_180 (by decide) ?_
        exact ih2 M (by omega) hC fr _ _ _ _
  refine g_aload_n dL_codes_0 rfl ?_
  refine z_callVV dL_codes_1 lm_L_75 lk_X8_encode ((c_encode hC).as f0) rfl rfl m_c rfl (mkRoom rfl rfl) (Nat.le_of_ble_eq_true rfl) (Nat.le_of_ble_eq_true rfl) (Nat.le_of_ble_eq_true rfl) (fun M r hp => ?_)
  obtain ⟨rfl, hC, o1⟩ := hp
  have m_c : M c = _ := hC.1
  have fr := fr.tr o1
  refine g_istore_n dL_codes_4 rfl (Nat.le_of_ble_eq_true rfl) ?_
  refine g_iload_n dL_codes_5 rfl ?_
  refine z_if_lt (tgt := 48) dL_codes_6 (by decide) (by omega) (fun c6 => absurd c6 (by omega)) (fun c6 => ?_)
  refine g_iload_n dL_codes_9 rfl ?_
  refine z_sipush dL_codes_10 (by decide +kernel) ?_
  refine z_icmp_gt (tgt := 48) dL_codes_13 (by decide) (by omega) (by omega) (fun c13 => absurd c13 (by omega)) (fun c13 => ?_)
  refine g_aload_n dL_codes_16 rfl ?_
  refine z_callVV dL_codes_17 lm_L_44 lk_X8_bytes ((c_bytes hC).as (k' := k1) (v := ((sC k1.1).length : Int)) (rfl)) rfl rfl m_c rfl (mkRoom rfl rfl) (Nat.le_of_ble_eq_true rfl) (Nat.le_of_ble_eq_true rfl) (Nat.le_of_ble_eq_true rfl) (fun M r hp => ?_)
  obtain ⟨rfl, hC, o1⟩ := hp
  have m_c : M c = _ := hC.1
  have fr := fr.tr o1
  refine g_iload_n dL_codes_20 rfl ?_
  refine z_icmp_ne (tgt := 48) dL_codes_21 (by decide) (by omega) (by omega) (fun c21 => absurd c21 (by omega)) (fun c21 => ?_)
  refine g_iload_n dL_codes_24 rfl ?_
  refine z_if_le (tgt := 38) dL_codes_25 (by decide) (by omega) (fun c25 => ?_) (fun c25 => ?_)
  · refine g_aload_n dL_codes_38 rfl ?_
    refine z_callVV dL_codes_39 lm_L_60 lk_X8_coded ((c_coded hC).as (k' := k1) (v := ((sA k1.1).length : Int)) (rfl)) rfl rfl m_c rfl (mkRoom rfl rfl) (Nat.le_of_ble_eq_true rfl) (Nat.le_of_ble_eq_true rfl) (Nat.le_of_ble_eq_true rfl) (fun M r hp => ?_)
    obtain ⟨rfl, hC, o1⟩ := hp
    have m_c : M c = _ := hC.1
    have fr := fr.tr o1
    refine g_iload_n dL_codes_42 rfl ?_
    refine z_iconst dL_codes_43 ?_
    refine z_iadd dL_codes_44 ?_
    refine z_icmp_eq (tgt := 50) dL_codes_45 (by decide) (by omega) (by omega) (fun c45 => ?_) (fun c45 => absurd c45 (by omega))
    refine z_iconst dL_codes_50 ?_
    refine g_istore_n dL_codes_51 rfl (Nat.le_of_ble_eq_true rfl) ?_
    refine z_iconst dL_codes_52 ?_
    refine g_istore dL_codes_53 (Nat.le_of_ble_eq_true rfl) ?_
    exact loop (n + 1) 0 M (by omega) hC fr _ _ _ _
  · refine g_aload_n dL_codes_28 rfl ?_
    refine g_iload_n dL_codes_29 rfl ?_
    refine z_iconst dL_codes_30 ?_
    refine z_isub dL_codes_31 ?_
    refine z_callVV dL_codes_32 lm_L_41 lk_X8_codeByte ((c_codeByte hC (by omega)).as (k' := k1) (v := ((sC k1.1).getD (((sC k1.1).length : Int) - 1).toNat 0)) (cb_e (by omega))) rfl rfl m_c rfl (mkRoom rfl rfl) (Nat.le_of_ble_eq_true rfl) (Nat.le_of_ble_eq_true rfl) (Nat.le_of_ble_eq_true rfl) (fun M r hp => ?_)
    obtain ⟨rfl, hC, o1⟩ := hp
    have m_c : M c = _ := hC.1
    have fr := fr.tr o1
    have h35 := f2 (((sC k1.1).length : Int) - 1).toNat (by omega)
    have h36 := f3.get (((sC k1.1).length : Int) - 1).toNat
    refine z_if_eq (tgt := 48) dL_codes_35 (by decide) (by omega) (fun c35 => absurd c35 (by omega)) (fun c35 => ?_)
    refine g_aload_n dL_codes_38 rfl ?_
    refine z_callVV dL_codes_39 lm_L_60 lk_X8_coded ((c_coded hC).as (k' := k1) (v := ((sA k1.1).length : Int)) (rfl)) rfl rfl m_c rfl (mkRoom rfl rfl) (Nat.le_of_ble_eq_true rfl) (Nat.le_of_ble_eq_true rfl) (Nat.le_of_ble_eq_true rfl) (fun M r hp => ?_)
    obtain ⟨rfl, hC, o1⟩ := hp
    have m_c : M c = _ := hC.1
    have fr := fr.tr o1
    refine g_iload_n dL_codes_42 rfl ?_
    refine z_iconst dL_codes_43 ?_
    refine z_iadd dL_codes_44 ?_
    refine z_icmp_eq (tgt := 50) dL_codes_45 (by decide) (by omega) (by omega) (fun c45 => ?_) (fun c45 => absurd c45 (by omega))
    refine z_iconst dL_codes_50 ?_
    refine g_istore_n dL_codes_51 rfl (Nat.le_of_ble_eq_true rfl) ?_
    refine z_iconst dL_codes_52 ?_
    refine g_istore dL_codes_53 (Nat.le_of_ble_eq_true rfl) ?_
    exact loop (n + 1) 0 M (by omega) hC fr _ _ _ _
