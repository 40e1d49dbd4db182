/-! a text is typed; what is decoded agrees; prices -/
theorem ty_e {σ : sg} {h : List sg} {q l a : Int} {j : Nat} (ha : a = chz q l j) (hl : 1 ≤ l ∧ l ≤ 8) (hj : j < 200) : oType a (σ, h, txt q l j) = ((j : Int) + 1, (σ, h, txt q l (j + 1))) := by
  subst ha
  have := chz_rng (q := q) hl j
  unfold oType
  dsimp only
  rw [txt_len, if_pos (by omega), if_pos hj]
  rfl
theorem dc_e {k : kk} {q l : Int} {n j : Nat} (hr : sR k.1 = txt q l n) (hj : j < n) : oDecoded (j : Int) k = (chz q l j, k) := by
  unfold oDecoded
  rw [hr, txt_len, if_neg (by omega), if_pos (by omega), Int.toNat_natCast, txt_get q l n j hj, Int.sub_add_cancel]
theorem wg_no {k : kk} (h : cnO (sT k.1) (ky k.2.2 k.2.2.length 0) = none) : oWeight 0 k = (-9, k) := by
  unfold oWeight
  rw [if_pos (by omega), if_neg (by omega), show Int.toNat 0 = 0 from rfl]
  simp only [h]
theorem wg_at {k : kk} {d : Nat → Int} (h : cnO (sT k.1) (ky k.2.2 k.2.2.length 0) = some d) : oWeight 0 k = (wt d, k) := by
  unfold oWeight
  rw [if_pos (by omega), if_neg (by omega), show Int.toNat 0 = 0 from rfl]
  simp only [h]
theorem ct_at {k : kk} {d : Nat → Int} (h : cnO (sT k.1) (ky k.2.2 k.2.2.length 0) = some d) : oCount 0 95 k = (d 95, k) := by
  unfold oCount
  rw [if_pos (by omega), if_neg (by omega), show Int.toNat 0 = 0 from rfl, show Int.toNat 95 = 95 from rfl]
  simp only [h]
set_option maxHeartbeats 2000000 in
theorem x_types {M : pM} {z c : Nat} {k : kk} {q l : Int} {n : Nat} (hC : CC M c k) (h0 : k.2.2 = []) (hq : -2147483648 ≤ q ∧ q < 2147483648) (hl : 1 ≤ l ∧ l ≤ 8) (hn : n ≤ 29) : CW I_L_types yL_types [.ref c, vI q, vI (n : Int), vI l] M z (fun M' r => r = some (vI (n : Int)) ∧ CC M' c (k.1, k.2.1, txt q l n) ∧ Off M M' c (c + 131)) := by
  obtain ⟨σ, h, x⟩ := k
  dsimp only at h0
  subst h0
  have m_c : M c = _ := hC.1
  have fr : Off M M c (c + 131) := Off.rf
  have ht16 := t16_rng q
  refine C.intro (pl := [some (.ref c), some (vI q), some (vI (n : Int)), some (vI l), none, none, none]) pn_L rfl (fun h => absurd h (by decide)) rfl (Nat.le_of_ble_eq_true rfl) rfl ?_
  have loop : ∀ (u j : Nat) (M1 : pM), j + u = n → CC M1 c (σ, h, txt q l j) → Off M M1 c (c + 131) → ∀ K : Option Value, G I_L_types 0 0 (fun M' z' r => z' = z ∧ r = some (vI (n : Int)) ∧ CC M' c (σ, h, txt q l n) ∧ Off M M' c (c + 131)) 0 0 10 [some (.ref c), some (vI q), some (vI (n : Int)), some (vI l), some (vI (j : Int)), some (vI (j : Int)), K] [] M1 z := by
    intro u
    induction u with
    | zero =>
      intro j M hj hC fr K
      have ej : j = n := by omega
      subst ej
      refine g_iload dL_types_10 rfl ?_
      refine g_iload_n dL_types_12 rfl ?_
      refine z_icmp_ge (tgt := 74) dL_types_13 (by decide) (by omega) (by omega) (fun c13 => ?_) (fun c13 => absurd c13 (by omega))
      refine g_iload dL_types_74 rfl ?_
      exact g_ireturn dL_types_76 rfl (Nat.le_of_ble_eq_true rfl) (Nat.le_of_ble_eq_true rfl) ⟨rfl, rfl, hC, fr⟩
    | succ u ih =>
      intro j M hj hC fr K
      have m_c : M c = _ := hC.1
      have hup := upz_rng (a := q / 2 ^ (3 * (j % 8))) (m := l) (by omega)
      refine g_iload dL_types_10 rfl ?_
      refine g_iload_n dL_types_12 rfl ?_
      refine z_icmp_ge (tgt := 74) dL_types_13 (by decide) (by omega) (by omega) (fun c13 => absurd c13 (by omega)) (fun c13 => ?_)
      refine z_bipush dL_types_16 (by decide +kernel) ?_
      refine g_iload_n dL_types_18 rfl ?_
      refine z_iconst dL_types_19 ?_
      refine g_iload dL_types_20 rfl ?_
      refine z_bipush dL_types_22 (by decide +kernel) ?_
      refine z_irem dL_types_24 (by omega) (by omega) ?_
      refine z_imul dL_types_25 ?_
      refine g_ishr dL_types_26 ?_
      refine G.top (v' := vI (q / 2 ^ (3 * (j % 8)))) (by rw [show (3 : Int) * ((j : Int) % 8) = ((3 * (j % 8) : Nat) : Int) by omega, iZ_shr hq (by omega)]) ?_
      refine g_iload_n dL_types_27 rfl ?_
      refine z_callSR dL_types_28 lm_L_70 lk_L_up (x_up (div_rng hq _) (by omega)) rfl rfl (mkRoom rfl rfl) (Nat.le_of_ble_eq_true rfl) (Nat.le_of_ble_eq_true rfl) (Nat.le_of_ble_eq_true rfl) ?_
      refine z_iadd dL_types_31 ?_
      refine g_istore dL_types_32 (Nat.le_of_ble_eq_true rfl) ?_
      refine g_iload dL_types_34 rfl ?_
      refine z_bipush dL_types_36 (by decide +kernel) ?_
      refine g_iand dL_types_38 ?_
      refine G.top (v' := vI ((j : Int) % 8)) (by rw [iZ_and7]) ?_
      refine z_bipush dL_types_39 (by decide +kernel) ?_
      refine z_icmp_ne (tgt := 60) dL_types_41 (by decide) (by omega) (by omega) (fun c41 => ?_) (fun c41 => ?_)
      · refine g_aload_n dL_types_60 rfl ?_
        refine g_iload dL_types_61 rfl ?_
        refine z_callVV dL_types_63 lm_L_35 lk_X8_type ((c_type hC (by omega)).as (v := (j : Int) + 1) (k' := (σ, h, txt q l (j + 1))) (ty_e (by unfold chz; rw [if_neg (by omega)]) hl (by omega))) rfl rfl m_c rfl (mkRoom rfl rfl) (Nat.le_of_ble_eq_true rfl) (Nat.le_of_ble_eq_true rfl) (Nat.le_of_ble_eq_true rfl) (fun M r hp => ?_)
        obtain ⟨rfl, hC, o1⟩ := hp
        have m_c : M c = _ := hC.1
        have fr := fr.tr o1
        refine g_istore dL_types_66 (Nat.le_of_ble_eq_true rfl) ?_
        refine z_iinc dL_types_68 rfl (Nat.le_of_ble_eq_true rfl) ?_
        refine g_goto (tgt := 10) dL_types_71 (by decide) ?_
        exact ih (j + 1) M (by omega) hC fr _
      · refine g_iload_n dL_types_44 rfl ?_
        refine z_bipush dL_types_45 (by decide +kernel) ?_
        refine g_iand dL_types_47 ?_
        refine G.top (v' := vI (t16 q)) (congrArg Value.int (iZ_of _)) ?_
        refine z_if_eq (tgt := 60) dL_types_48 (by decide) (by omega) (fun c48 => ?_) (fun c48 => ?_)
        · refine g_aload_n dL_types_60 rfl ?_
          refine g_iload dL_types_61 rfl ?_
          refine z_callVV dL_types_63 lm_L_35 lk_X8_type ((c_type hC (by omega)).as (v := (j : Int) + 1) (k' := (σ, h, txt q l (j + 1))) (ty_e (by unfold chz; rw [if_neg (by omega)]) hl (by omega))) rfl rfl m_c rfl (mkRoom rfl rfl) (Nat.le_of_ble_eq_true rfl) (Nat.le_of_ble_eq_true rfl) (Nat.le_of_ble_eq_true rfl) (fun M r hp => ?_)
          obtain ⟨rfl, hC, o1⟩ := hp
          have m_c : M c = _ := hC.1
          have fr := fr.tr o1
          refine g_istore dL_types_66 (Nat.le_of_ble_eq_true rfl) ?_
          refine z_iinc dL_types_68 rfl (Nat.le_of_ble_eq_true rfl) ?_
          refine g_goto (tgt := 10) dL_types_71 (by decide) ?_
          exact ih (j + 1) M (by omega) hC fr _
        · refine g_aload_n dL_types_51 rfl ?_
          refine z_bipush dL_types_52 (by decide +kernel) ?_
          refine z_callVV dL_types_54 lm_L_35 lk_X8_type ((c_type hC (by omega)).as (v := (j : Int) + 1) (k' := (σ, h, txt q l (j + 1))) (ty_e (by unfold chz; rw [if_pos (by omega)]) hl (by omega))) rfl rfl m_c rfl (mkRoom rfl rfl) (Nat.le_of_ble_eq_true rfl) (Nat.le_of_ble_eq_true rfl) (Nat.le_of_ble_eq_true rfl) (fun M r hp => ?_)
          obtain ⟨rfl, hC, o1⟩ := hp
          have m_c : M c = _ := hC.1
          have fr := fr.tr o1
          refine g_goto (tgt := 66) dL_types_57 (by decide) ?_
          refine g_istore dL_types_66 (Nat.le_of_ble_eq_true rfl) ?_
          refine z_iinc dL_types_68 rfl (Nat.le_of_ble_eq_true rfl) ?_
          refine g_goto (tgt := 10) dL_types_71 (by decide) ?_
          exact ih (j + 1) M (by omega) hC fr _
  refine g_aload_n dL_types_0 rfl ?_
  refine z_iconst dL_types_1 ?_
  refine z_callVV dL_types_2 lm_L_38 lk_X8_remove ((c_remove hC (by omega)).as (v := 0) (k' := (σ, h, txt q l 0)) (by unfold oRemove; rw [if_neg (by omega)]; rfl)) rfl rfl m_c rfl (mkRoom rfl rfl) (Nat.le_of_ble_eq_true rfl) (Nat.le_of_ble_eq_true rfl) (Nat.le_of_ble_eq_true rfl) (fun M r hp => ?_)
  obtain ⟨rfl, hC, o1⟩ := hp
  have m_c : M c = _ := hC.1
  have fr := fr.tr o1
  refine g_istore dL_types_5 (Nat.le_of_ble_eq_true rfl) ?_
  refine z_iconst dL_types_7 ?_
  refine g_istore dL_types_8 (Nat.le_of_ble_eq_true rfl) ?_
  exact loop n 0 M (by omega) hC fr _
set_option maxHeartbeats 2000000 in
theorem x_agrees {M : pM} {z c : Nat} {k : kk} {q l : Int} {n : Nat} (hC : CC M c k) (hr : sR k.1 = txt q l n) (hq : -2147483648 ≤ q ∧ q < 2147483648) (hl : 1 ≤ l ∧ l ≤ 8) (hn : n ≤ 29) : CW I_L_agrees yL_agrees [.ref c, vI q, vI (n : Int), vI l] M z (fun M' r => r = some (vI 1) ∧ CC M' c k ∧ Off M M' c (c + 131)) := by
  have fr : Off M M c (c + 131) := Off.rf
  have ht16 := t16_rng q
  refine C.intro (pl := [some (.ref c), some (vI q), some (vI (n : Int)), some (vI l), none, none]) pn_L rfl (fun h => absurd h (by decide)) rfl (Nat.le_of_ble_eq_true rfl) rfl ?_
  have loop : ∀ (u j : Nat) (M1 : pM), j + u = n → CC M1 c k → Off M M1 c (c + 131) → ∀ K : Option Value, G I_L_agrees 0 0 (fun M' z' r => z' = z ∧ r = some (vI 1) ∧ CC M' c (k) ∧ Off M M' c (c + 131)) 0 0 3 [some (.ref c), some (vI q), some (vI (n : Int)), some (vI l), some (vI (j : Int)), K] [] M1 z := by
    intro u
    induction u with
    | zero =>
      intro j M hj hC fr K
      have ej : j = n := by omega
      subst ej
      refine g_iload dL_agrees_3 rfl ?_
      refine g_iload_n dL_agrees_5 rfl ?_
      refine z_icmp_ge (tgt := 68) dL_agrees_6 (by decide) (by omega) (by omega) (fun c6 => ?_) (fun c6 => absurd c6 (by omega))
      refine z_iconst dL_agrees_68 ?_
      exact g_zreturn dL_agrees_69 rfl (by first | rfl | decide) (Nat.le_of_ble_eq_true rfl) (Nat.le_of_ble_eq_true rfl) ⟨rfl, rfl, hC, fr⟩
    | succ u ih =>
      intro j M hj hC fr K
      have m_c : M c = _ := hC.1
      have hup := upz_rng (a := q / 2 ^ (3 * (j % 8))) (m := l) (by omega)
      have hcr := chz_rng (q := q) hl j
      refine g_iload dL_agrees_3 rfl ?_
      refine g_iload_n dL_agrees_5 rfl ?_
      refine z_icmp_ge (tgt := 68) dL_agrees_6 (by decide) (by omega) (by omega) (fun c6 => absurd c6 (by omega)) (fun c6 => ?_)
      refine z_bipush dL_agrees_9 (by decide +kernel) ?_
      refine g_iload_n dL_agrees_11 rfl ?_
      refine z_iconst dL_agrees_12 ?_
      refine g_iload dL_agrees_13 rfl ?_
      refine z_bipush dL_agrees_15 (by decide +kernel) ?_
      refine z_irem dL_agrees_17 (by omega) (by omega) ?_
      refine z_imul dL_agrees_18 ?_
      refine g_ishr dL_agrees_19 ?_
      refine G.top (v' := vI (q / 2 ^ (3 * (j % 8)))) (by rw [show (3 : Int) * ((j : Int) % 8) = ((3 * (j % 8) : Nat) : Int) by omega, iZ_shr hq (by omega)]) ?_
      refine g_iload_n dL_agrees_20 rfl ?_
      refine z_callSR dL_agrees_21 lm_L_70 lk_L_up (x_up (div_rng hq _) (by omega)) rfl rfl (mkRoom rfl rfl) (Nat.le_of_ble_eq_true rfl) (Nat.le_of_ble_eq_true rfl) (Nat.le_of_ble_eq_true rfl) ?_
      refine z_iadd dL_agrees_24 ?_
      refine g_istore dL_agrees_25 (Nat.le_of_ble_eq_true rfl) ?_
      refine g_aload_n dL_agrees_27 rfl ?_
      refine g_iload dL_agrees_28 rfl ?_
      refine z_callVV dL_agrees_30 lm_L_48 lk_X8_decoded ((c_decoded hC (by omega)).as (k' := k) (v := (chz q l j)) (dc_e hr (by omega))) rfl rfl m_c rfl (mkRoom rfl rfl) (Nat.le_of_ble_eq_true rfl) (Nat.le_of_ble_eq_true rfl) (Nat.le_of_ble_eq_true rfl) (fun M r hp => ?_)
      obtain ⟨rfl, hC, o1⟩ := hp
      have m_c : M c = _ := hC.1
      have fr := fr.tr o1
      refine g_iload dL_agrees_33 rfl ?_
      refine z_bipush dL_agrees_35 (by decide +kernel) ?_
      refine g_iand dL_agrees_37 ?_
      refine G.top (v' := vI ((j : Int) % 8)) (by rw [iZ_and7]) ?_
      refine z_bipush dL_agrees_38 (by decide +kernel) ?_
      refine z_icmp_ne (tgt := 55) dL_agrees_40 (by decide) (by omega) (by omega) (fun c40 => ?_) (fun c40 => ?_)
      · have hch : chz q l j = 97 + upz (q / 2 ^ (3 * (j % 8))) l := by unfold chz; rw [if_neg (by omega)]
        refine g_iload dL_agrees_55 rfl ?_
        refine z_icmp_eq (tgt := 62) dL_agrees_57 (by decide) (by omega) (by omega) (fun c57 => ?_) (fun c57 => absurd c57 (by omega))
        refine z_iinc dL_agrees_62 rfl (Nat.le_of_ble_eq_true rfl) ?_
        refine g_goto (tgt := 3) dL_agrees_65 (by decide) ?_
        exact ih (j + 1) M (by omega) hC fr _
      · refine g_iload_n dL_agrees_43 rfl ?_
        refine z_bipush dL_agrees_44 (by decide +kernel) ?_
        refine g_iand dL_agrees_46 ?_
        refine G.top (v' := vI (t16 q)) (congrArg Value.int (iZ_of _)) ?_
        refine z_if_eq (tgt := 55) dL_agrees_47 (by decide) (by omega) (fun c47 => ?_) (fun c47 => ?_)
        · have hch : chz q l j = 97 + upz (q / 2 ^ (3 * (j % 8))) l := by unfold chz; rw [if_neg (by omega)]
          refine g_iload dL_agrees_55 rfl ?_
          refine z_icmp_eq (tgt := 62) dL_agrees_57 (by decide) (by omega) (by omega) (fun c57 => ?_) (fun c57 => absurd c57 (by omega))
          refine z_iinc dL_agrees_62 rfl (Nat.le_of_ble_eq_true rfl) ?_
          refine g_goto (tgt := 3) dL_agrees_65 (by decide) ?_
          exact ih (j + 1) M (by omega) hC fr _
        · have hch : chz q l j = 32 := by unfold chz; rw [if_pos (by omega)]
          refine z_bipush dL_agrees_50 (by decide +kernel) ?_
          refine g_goto (tgt := 57) dL_agrees_52 (by decide) ?_
          refine z_icmp_eq (tgt := 62) dL_agrees_57 (by decide) (by omega) (by omega) (fun c57 => ?_) (fun c57 => absurd c57 (by omega))
          refine z_iinc dL_agrees_62 rfl (Nat.le_of_ble_eq_true rfl) ?_
          refine g_goto (tgt := 3) dL_agrees_65 (by decide) ?_
          exact ih (j + 1) M (by omega) hC fr _
  refine z_iconst dL_agrees_0 ?_
  refine g_istore dL_agrees_1 (Nat.le_of_ble_eq_true rfl) ?_
  exact loop n 0 M (by omega) hC fr _
set_option maxHeartbeats 2000000 in
theorem x_prices {M : pM} {z c : Nat} {k : kk} {q : Int} (hC : CC M c k) (hq : -2147483648 ≤ q ∧ q < 2147483648) : CW I_L_prices yL_prices [.ref c, vI q] M z (fun M' r => r = some (vI 1) ∧ CC M' c k ∧ Off M M' c (c + 131)) := by
  obtain ⟨hG, hc1, hc2, hc3, hc4, hc5, hc6⟩ := hC.facts
  have m_c : M c = _ := hC.1
  have fr : Off M M c (c + 131) := Off.rf
  have hb := bst_le (prc k) 95
  have hpp : ∀ s : Nat, s < 96 → 0 ≤ prc k s ∧ prc k s ≤ 10158080 := fun s hs => prc_pos hG.2.1 hG.1 hs
  have hpb := hpp _ (show bst (prc k) 95 < 96 by omega)
  refine C.intro (pl := [some (.ref c), some (vI q), none, none, none, none, none]) pn_L rfl (fun h => absurd h (by decide)) rfl (Nat.le_of_ble_eq_true rfl) rfl ?_
  have tail : ∀ (M1 : pM), CC M1 c k → Off M M1 c (c + 131) → ∀ K4 K5 K6 : Option Value, G I_L_prices 0 0 (fun M' z' r => z' = z ∧ r = some (vI 1) ∧ CC M' c (k) ∧ Off M M' c (c + 131)) 0 0 73 [some (.ref c), some (vI q), some (vI (bst (prc k) 95 : Int)), some (vI (prc k (bst (prc k) 95))), K4, K5, K6] [] M1 z := by
    intro M hC fr K4 K5 K6
    have m_c : M c = _ := hC.1
    cases hcn : cnO (sT k.1) (ky k.2.2 k.2.2.length 0) with
    | none =>
      refine g_aload_n dL_prices_73 rfl ?_
      refine z_iconst dL_prices_74 ?_
      refine z_callVV dL_prices_75 lm_L_29 lk_X8_weight ((c_weight hC (by omega)).as (k' := k) (v := (-9)) (wg_no hcn)) rfl rfl m_c rfl (mkRoom rfl rfl) (Nat.le_of_ble_eq_true rfl) (Nat.le_of_ble_eq_true rfl) (Nat.le_of_ble_eq_true rfl) (fun M r hp => ?_)
      obtain ⟨rfl, hC, o1⟩ := hp
      have m_c : M c = _ := hC.1
      have fr := fr.tr o1
      refine z_bipush dL_prices_78 (by decide +kernel) ?_
      refine z_icmp_eq (tgt := 107) dL_prices_80 (by decide) (by omega) (by omega) (fun c80 => ?_) (fun c80 => absurd c80 (by omega))
      refine z_iconst dL_prices_107 ?_
      refine g_goto (tgt := 112) dL_prices_108 (by decide) ?_
      exact g_zreturn dL_prices_112 rfl (by first | rfl | decide) (Nat.le_of_ble_eq_true rfl) (Nat.le_of_ble_eq_true rfl) ⟨rfl, rfl, hC, fr⟩
    | some d =>
      obtain ⟨g1, g2, g3⟩ := okC_wt (hG.2.1.cnO hcn)
      have g4 := g3 95 (by omega)
      refine g_aload_n dL_prices_73 rfl ?_
      refine z_iconst dL_prices_74 ?_
      refine z_callVV dL_prices_75 lm_L_29 lk_X8_weight ((c_weight hC (by omega)).as (k' := k) (v := (wt d)) (wg_at hcn)) rfl rfl m_c rfl (mkRoom rfl rfl) (Nat.le_of_ble_eq_true rfl) (Nat.le_of_ble_eq_true rfl) (Nat.le_of_ble_eq_true rfl) (fun M r hp => ?_)
      obtain ⟨rfl, hC, o1⟩ := hp
      have m_c : M c = _ := hC.1
      have fr := fr.tr o1
      refine z_bipush dL_prices_78 (by decide +kernel) ?_
      refine z_icmp_eq (tgt := 107) dL_prices_80 (by decide) (by omega) (by omega) (fun c80 => absurd c80 (by omega)) (fun c80 => ?_)
      refine g_aload_n dL_prices_83 rfl ?_
      refine z_iconst dL_prices_84 ?_
      refine z_callVV dL_prices_85 lm_L_29 lk_X8_weight ((c_weight hC (by omega)).as (k' := k) (v := (wt d)) (wg_at hcn)) rfl rfl m_c rfl (mkRoom rfl rfl) (Nat.le_of_ble_eq_true rfl) (Nat.le_of_ble_eq_true rfl) (Nat.le_of_ble_eq_true rfl) (fun M r hp => ?_)
      obtain ⟨rfl, hC, o1⟩ := hp
      have m_c : M c = _ := hC.1
      have fr := fr.tr o1
      refine z_iconst dL_prices_88 ?_
      refine z_icmp_lt (tgt := 111) dL_prices_89 (by decide) (by omega) (by omega) (fun c89 => absurd c89 (by omega)) (fun c89 => ?_)
      refine g_aload_n dL_prices_92 rfl ?_
      refine z_iconst dL_prices_93 ?_
      refine z_bipush dL_prices_94 (by decide +kernel) ?_
      refine z_callVV dL_prices_96 lm_L_25 lk_X8_count ((c_count hC (by omega) (by omega)).as (k' := k) (v := (d 95)) (ct_at hcn)) rfl rfl m_c rfl (mkRoom rfl rfl) (Nat.le_of_ble_eq_true rfl) (Nat.le_of_ble_eq_true rfl) (Nat.le_of_ble_eq_true rfl) (fun M r hp => ?_)
      obtain ⟨rfl, hC, o1⟩ := hp
      have m_c : M c = _ := hC.1
      have fr := fr.tr o1
      refine g_aload_n dL_prices_99 rfl ?_
      refine z_iconst dL_prices_100 ?_
      refine z_callVV dL_prices_101 lm_L_29 lk_X8_weight ((c_weight hC (by omega)).as (k' := k) (v := (wt d)) (wg_at hcn)) rfl rfl m_c rfl (mkRoom rfl rfl) (Nat.le_of_ble_eq_true rfl) (Nat.le_of_ble_eq_true rfl) (Nat.le_of_ble_eq_true rfl) (fun M r hp => ?_)
      obtain ⟨rfl, hC, o1⟩ := hp
      have m_c : M c = _ := hC.1
      have fr := fr.tr o1
      refine z_icmp_gt (tgt := 111) dL_prices_104 (by decide) (by omega) (by omega) (fun c104 => absurd c104 (by omega)) (fun c104 => ?_)
      refine z_iconst dL_prices_107 ?_
      refine g_goto (tgt := 112) dL_prices_108 (by decide) ?_
      exact g_zreturn dL_prices_112 rfl (by first | rfl | decide) (Nat.le_of_ble_eq_true rfl) (Nat.le_of_ble_eq_true rfl) ⟨rfl, rfl, hC, fr⟩
  have loop : ∀ (u j : Nat) (M1 : pM), j + u = 5 → CC M1 c k → Off M M1 c (c + 131) → ∀ K5 K6 : Option Value, G I_L_prices 0 0 (fun M' z' r => z' = z ∧ r = some (vI 1) ∧ CC M' c (k) ∧ Off M M' c (c + 131)) 0 0 14 [some (.ref c), some (vI q), some (vI (bst (prc k) 95 : Int)), some (vI (prc k (bst (prc k) 95))), some (vI (j : Int)), K5, K6] [] M1 z := by
    intro u
    induction u with
    | zero =>
      intro j M hj hC fr K5 K6
      refine g_iload dL_prices_14 rfl ?_
      refine z_iconst dL_prices_16 ?_
      refine z_icmp_ge (tgt := 73) dL_prices_17 (by decide) (by omega) (by omega) (fun c17 => ?_) (fun c17 => absurd c17 (by omega))
      exact tail M hC fr _ _ _
    | succ u ih =>
      intro j M hj hC fr K5 K6
      have m_c : M c = _ := hC.1
      have hup := upz_rng (a := q / 2 ^ (6 * j)) (m := 96) (by omega)
      have hps := hpp (upz (q / 2 ^ (6 * j)) 96).toNat (by omega)
      have hm := bst_min (prc k) 95 (upz (q / 2 ^ (6 * j)) 96).toNat (by omega)
      refine g_iload dL_prices_14 rfl ?_
      refine z_iconst dL_prices_16 ?_
      refine z_icmp_ge (tgt := 73) dL_prices_17 (by decide) (by omega) (by omega) (fun c17 => absurd c17 (by omega)) (fun c17 => ?_)
      refine g_iload_n dL_prices_20 rfl ?_
      refine z_bipush dL_prices_21 (by decide +kernel) ?_
      refine g_iload dL_prices_23 rfl ?_
      refine z_imul dL_prices_25 ?_
      refine g_ishr dL_prices_26 ?_
      refine G.top (v' := vI (q / 2 ^ (6 * j))) (by rw [show (6 : Int) * (j : Int) = ((6 * j : Nat) : Int) by omega, iZ_shr hq (by omega)]) ?_
      refine z_bipush dL_prices_27 (by decide +kernel) ?_
      refine z_callSR dL_prices_29 lm_L_70 lk_L_up (x_up (div_rng hq _) (by omega)) rfl rfl (mkRoom rfl rfl) (Nat.le_of_ble_eq_true rfl) (Nat.le_of_ble_eq_true rfl) (Nat.le_of_ble_eq_true rfl) ?_
      refine g_istore dL_prices_32 (Nat.le_of_ble_eq_true rfl) ?_
      refine g_aload_n dL_prices_34 rfl ?_
      refine g_iload dL_prices_35 rfl ?_
      refine z_callVV dL_prices_37 lm_L_32 lk_X8_price ((c_price hC (by omega)).as (k' := k) (v := (prc k (upz (q / 2 ^ (6 * j)) 96).toNat)) (by unfold oPrice; rw [if_pos (by omega)])) rfl rfl m_c rfl (mkRoom rfl rfl) (Nat.le_of_ble_eq_true rfl) (Nat.le_of_ble_eq_true rfl) (Nat.le_of_ble_eq_true rfl) (fun M r hp => ?_)
      obtain ⟨rfl, hC, o1⟩ := hp
      have m_c : M c = _ := hC.1
      have fr := fr.tr o1
      refine g_istore dL_prices_40 (Nat.le_of_ble_eq_true rfl) ?_
      refine g_iload dL_prices_42 rfl ?_
      refine g_iload_n dL_prices_44 rfl ?_
      refine z_icmp_lt (tgt := 65) dL_prices_45 (by decide) (by omega) (by omega) (fun c45 => absurd c45 (by omega)) (fun c45 => ?_)
      refine g_iload dL_prices_48 rfl ?_
      refine g_iload_n dL_prices_50 rfl ?_
      refine z_icmp_ne (tgt := 60) dL_prices_51 (by decide) (by omega) (by omega) (fun c51 => ?_) (fun c51 => ?_)
      · refine g_iload dL_prices_60 rfl ?_
        refine z_if_ge (tgt := 67) dL_prices_62 (by decide) (by omega) (fun c62 => ?_) (fun c62 => absurd c62 (by omega))
        refine z_iinc dL_prices_67 rfl (Nat.le_of_ble_eq_true rfl) ?_
        refine g_goto (tgt := 14) dL_prices_70 (by decide) ?_
        exact ih (j + 1) M (by omega) hC fr _ _
      · have hm2 := hm.2 c51
        refine g_iload dL_prices_54 rfl ?_
        refine g_iload_n dL_prices_56 rfl ?_
        refine z_icmp_lt (tgt := 65) dL_prices_57 (by decide) (by omega) (by omega) (fun c57 => absurd c57 (by omega)) (fun c57 => ?_)
        refine g_iload dL_prices_60 rfl ?_
        refine z_if_ge (tgt := 67) dL_prices_62 (by decide) (by omega) (fun c62 => ?_) (fun c62 => absurd c62 (by omega))
        refine z_iinc dL_prices_67 rfl (Nat.le_of_ble_eq_true rfl) ?_
        refine g_goto (tgt := 14) dL_prices_70 (by decide) ?_
        exact ih (j + 1) M (by omega) hC fr _ _
  refine g_aload_n dL_prices_0 rfl ?_
  refine z_callVV dL_prices_1 lm_L_93 lk_X8_guess ((c_guess hC).as (k' := k) (v := (bst (prc k) 95 : Int)) (rfl)) rfl rfl m_c rfl (mkRoom rfl rfl) (Nat.le_of_ble_eq_true rfl) (Nat.le_of_ble_eq_true rfl) (Nat.le_of_ble_eq_true rfl) (fun M r hp => ?_)
  obtain ⟨rfl, hC, o1⟩ := hp
  have m_c : M c = _ := hC.1
  have fr := fr.tr o1
  refine g_istore_n dL_prices_4 rfl (Nat.le_of_ble_eq_true rfl) ?_
  refine g_aload_n dL_prices_5 rfl ?_
  refine g_iload_n dL_prices_6 rfl ?_
  refine z_callVV dL_prices_7 lm_L_32 lk_X8_price ((c_price hC (by omega)).as (k' := k) (v := (prc k (bst (prc k) 95))) (by unfold oPrice; rw [if_pos (by omega), Int.toNat_natCast])) rfl rfl m_c rfl (mkRoom rfl rfl) (Nat.le_of_ble_eq_true rfl) (Nat.le_of_ble_eq_true rfl) (Nat.le_of_ble_eq_true rfl) (fun M r hp => ?_)
  obtain ⟨rfl, hC, o1⟩ := hp
  have m_c : M c = _ := hC.1
  have fr := fr.tr o1
  refine g_istore_n dL_prices_10 rfl (Nat.le_of_ble_eq_true rfl) ?_
  refine z_iconst dL_prices_11 ?_
  refine g_istore dL_prices_12 (Nat.le_of_ble_eq_true rfl) ?_
  exact loop 5 0 M (by omega) hC fr _ _
