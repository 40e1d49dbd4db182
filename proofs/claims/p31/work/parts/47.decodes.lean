/-! the law's check that a code is decoded -/
/-- the same settings, the same model -/
def eqS (σ τ : sg) : Prop := sO σ = sO τ ∧ sX σ = sX τ ∧ sS σ = sS τ ∧ sL σ = sL τ ∧ sT σ = sT τ
theorem ap_e {k : kk} {a : Int} (ha : 0 ≤ a ∧ a ≤ 255) (hl : (sC k.1).length < 400) : oAppend a k = ((((sC k.1).length : Int) + 1), pushed k (sO k.1, sX k.1, sS k.1, sL k.1, sT k.1, sC k.1 ++ [a], sA k.1, sG k.1, sR k.1)) := by
  unfold oAppend
  rw [if_pos ha, if_pos hl]
theorem cu_e {k : kk} (h : 0 < (sC k.1).length) (hl : (sC k.1).length ≤ 400) : oCut ((sC k.1).length : Int) k = (0, pushed k (sO k.1, sX k.1, sS k.1, sL k.1, sT k.1, [], sA k.1, sG k.1, sR k.1)) := by
  unfold oCut
  rw [if_pos (by omega), if_pos (by omega), Int.toNat_natCast, Nat.sub_self, List.take_zero]
  rfl
/-- decoding what was coded from the same model -/
theorem de_e {k0 k : kk} (hG : okG k0.1) (hx : okX k0.2.2) (hl : k0.2.2.length ≤ 200) (he : eqS k.1 k0.1) (hc : sC k.1 = sC (encd k0).1) : ∃ σ : sg, oDecode k = (((sR σ).length : Int), pushed k σ) ∧ sO σ = sO k0.1 ∧ sR σ = k0.2.2 ∧ sC σ = sC k.1 := by
  obtain ⟨e1, e2, e3, e4, e5⟩ := he
  rw [encd_C] at hc
  have hd : dres k.1 = (0, (crun (sO k0.1) (sX k0.1) (sS k0.1) (sL k0.1) k0.2.2 (sT k0.1) k0.2.2.length).1, k0.2.2) := by
    unfold dres
    rw [e1, e2, e3, e4, e5, hc]
    exact trip hG.1 hx hl hG.2.1
  refine ⟨(sO k.1, sX k.1, sS k.1, sL k.1, (crun (sO k.1) (sX k.1) (sS k.1) (sL k.1) (dres k.1).2.2 (sT k.1) ((dres k.1).2.2.length + 1)).1, sC k.1, sA k.1, sG k.1, (dres k.1).2.2), ?_, e1, ?_, rfl⟩
  · unfold oDecode
    rw [if_pos (by rw [hd]), if_pos (by rw [hd, e1, e2, e3, e4, e5]; exact hc.symm)]
  · show (dres k.1).2.2 = _
    rw [hd]
set_option maxHeartbeats 4000000 in
theorem x_decodes {M : pM} {z c : Nat} {k0 : kk} {n : Nat} (hC : CC M c (encd k0)) (hG : okG k0.1) (hx : okX k0.2.2) (hn : k0.2.2.length = n) (h29 : n ≤ 29) (hz : c + 131 ≤ z) : C I_L_decodes yL_decodes [.ref c, vI (n : Int)] M z 1 64 (fun M' z' r => z' = z + 1 ∧ r = some (vI 1) ∧ ∃ k' : kk, CC M' c k' ∧ sO k'.1 = sO k0.1 ∧ k'.2.2 = k0.2.2 ∧ ((sC k'.1).length ≤ 64 → sR k'.1 = k0.2.2)) := by
  have m_c : M c = _ := hC.1
  have hcs := hC.facts
  have hB := hcs.1.2.2.1
  have hh0 := hcs.2.2.2.2.2.2
  have hc400 := hcs.2.1
  have hG0 := hG
  obtain ⟨cs, hcse⟩ : ∃ cs, sC (encd k0).1 = cs := ⟨_, rfl⟩
  rw [hcse] at hB hc400
  have hbg := fun j : Nat => hB.get j
  refine C.intro (pl := [some (.ref c), some (vI (n : Int)), none, none, none, none, none, none]) pn_L rfl (fun h => absurd h (by decide)) rfl (Nat.le_of_ble_eq_true rfl) rfl ?_
  have loopC : ∀ (u j : Nat) (M1 : pM) (k5 : kk) (g : Nat → Int), j + u = cs.length → CC M1 c k5 → sC k5.1 = cs → sO k5.1 = sO k0.1 → k5.2.2 = k0.2.2 → sR k5.1 = k0.2.2 → M1 z = some (arI 64 g) → (∀ i, i < cs.length → g i = cs.getD i 0) → cs.length ≤ 64 → ∀ K4 K5 : Option Value, G I_L_decodes 1 64 (fun M' z' r => z' = z + 1 ∧ r = some (vI 1) ∧ ∃ k' : kk, CC M' c k' ∧ sO k'.1 = sO k0.1 ∧ k'.2.2 = k0.2.2 ∧ ((sC k'.1).length ≤ 64 → sR k'.1 = k0.2.2)) 1 64 136 [some (.ref c), some (vI (n : Int)), some (vI (cs.length : Int)), some (.ref z), K4, K5, some (vI 0), some (vI (j : Int))] [] M1 (z + 1) := by
    intro u
    induction u with
    | zero =>
      intro j M k5 g hj hC h1 h2 h3 h4 m_a hg h64 K4 K5
      refine g_iload dL_decodes_136 rfl ?_
      refine g_iload_n dL_decodes_138 rfl ?_
      refine z_icmp_ge (tgt := 169) dL_decodes_139 (by decide) (by omega) (by omega) (fun c139 => ?_) (fun c139 => absurd c139 (by omega))
      refine g_iload dL_decodes_169 rfl ?_
      refine z_if_ne (tgt := 178) dL_decodes_171 (by decide) (by omega) (fun c171 => absurd c171 (by omega)) (fun c171 => ?_)
      refine z_iconst dL_decodes_174 ?_
      refine g_goto (tgt := 179) dL_decodes_175 (by decide) ?_
      exact g_zreturn dL_decodes_179 rfl (by first | rfl | decide) (Nat.le_of_ble_eq_true rfl) (Nat.le_of_ble_eq_true rfl) ⟨rfl, rfl, k5, hC, h2, h3, fun _ => h4⟩
    | succ u ih =>
      intro j M k5 g hj hC h1 h2 h3 h4 m_a hg h64 K4 K5
      have m_c : M c = _ := hC.1
      have hb := hbg j
      have hgj := hg j (by omega)
      refine g_iload dL_decodes_136 rfl ?_
      refine g_iload_n dL_decodes_138 rfl ?_
      refine z_icmp_ge (tgt := 169) dL_decodes_139 (by decide) (by omega) (by omega) (fun c139 => absurd c139 (by omega)) (fun c139 => ?_)
      refine g_aload_n dL_decodes_142 rfl ?_
      refine g_iload dL_decodes_143 rfl ?_
      refine z_callVV dL_decodes_145 lm_L_41 lk_X8_codeByte ((c_codeByte hC (by omega)).as (k' := k5) (v := (cs.getD j 0)) (by rw [cb_e (by rw [h1]; omega), Int.toNat_natCast, h1])) rfl rfl m_c rfl (mkRoom rfl rfl) (Nat.le_of_ble_eq_true rfl) (Nat.le_of_ble_eq_true rfl) (Nat.le_of_ble_eq_true rfl) (fun M r hp => ?_)
      obtain ⟨rfl, hC, o1⟩ := hp
      have m_c : M c = _ := hC.1
      have m_a := (o1 _ (by omega)).trans m_a
      refine g_aload_n dL_decodes_148 rfl ?_
      refine g_iload dL_decodes_149 rfl ?_
      refine z_iaload (j := j) dL_decodes_151 m_a (by omega) (by omega) (by omega) ?_
      refine z_icmp_ne (tgt := 160) dL_decodes_152 (by decide) (by omega) (by omega) (fun c152 => absurd c152 (by omega)) (fun c152 => ?_)
      refine g_iload dL_decodes_155 rfl ?_
      refine g_goto (tgt := 161) dL_decodes_157 (by decide) ?_
      refine g_istore dL_decodes_161 (Nat.le_of_ble_eq_true rfl) ?_
      refine z_iinc dL_decodes_163 rfl (Nat.le_of_ble_eq_true rfl) ?_
      refine g_goto (tgt := 136) dL_decodes_166 (by decide) ?_
      exact ih (j + 1) M k5 g (by omega) hC h1 h2 h3 h4 m_a hg h64 _ _
  have loopB : ∀ (u j : Nat) (M1 : pM) (k : kk) (g : Nat → Int), j + u = cs.length → CC M1 c k → sC k.1 = cs.take j → eqS k.1 k0.1 → k.2.2 = k0.2.2 → M1 z = some (arI 64 g) → (∀ i, i < cs.length → g i = cs.getD i 0) → cs.length ≤ 64 → ∀ K4 K6 K7 : Option Value, G I_L_decodes 1 64 (fun M' z' r => z' = z + 1 ∧ r = some (vI 1) ∧ ∃ k' : kk, CC M' c k' ∧ sO k'.1 = sO k0.1 ∧ k'.2.2 = k0.2.2 ∧ ((sC k'.1).length ≤ 64 → sR k'.1 = k0.2.2)) 1 64 77 [some (.ref c), some (vI (n : Int)), some (vI (cs.length : Int)), some (.ref z), K4, some (vI (j : Int)), K6, K7] [] M1 (z + 1) := by
    intro u
    induction u with
    | zero =>
      intro j M k g hj hC h1 h2 h3 m_a hg h64 K4 K6 K7
      have m_c : M c = _ := hC.1
      rw [List.take_of_length_le (by omega)] at h1
      obtain ⟨σ, hd1, hd2, hd3, hd4⟩ := de_e hG hx (by omega) h2 (h1.trans hcse.symm)
      have hd5 : oDecode k = ((n : Int), pushed k σ) := by rw [hd1, hd3, hn]
      have hd6 : oDecoded (n : Int) (pushed k σ) = (-9, pushed k σ) := by
        have e : sR (pushed k σ).1 = k0.2.2 := hd3
        unfold oDecoded
        rw [e, hn, if_neg (by omega), if_neg (by omega)]
      refine g_iload dL_decodes_77 rfl ?_
      refine g_iload_n dL_decodes_79 rfl ?_
      refine z_icmp_ge (tgt := 106) dL_decodes_80 (by decide) (by omega) (by omega) (fun c80 => ?_) (fun c80 => absurd c80 (by omega))
      refine g_aload_n dL_decodes_106 rfl ?_
      refine z_callVV dL_decodes_107 lm_L_90 lk_X8_decode ((c_decode hC).as (k' := pushed k σ) (v := (n : Int)) (hd5)) rfl rfl m_c rfl (mkRoom rfl rfl) (Nat.le_of_ble_eq_true rfl) (Nat.le_of_ble_eq_true rfl) (Nat.le_of_ble_eq_true rfl) (fun M r hp => ?_)
      obtain ⟨rfl, hC, o1⟩ := hp
      have m_c : M c = _ := hC.1
      have m_a := (o1 _ (by omega)).trans m_a
      refine g_istore dL_decodes_110 (Nat.le_of_ble_eq_true rfl) ?_
      refine g_iload dL_decodes_112 rfl ?_
      refine g_iload_n dL_decodes_114 rfl ?_
      refine z_icmp_ne (tgt := 128) dL_decodes_115 (by decide) (by omega) (by omega) (fun c115 => absurd c115 (by omega)) (fun c115 => ?_)
      refine g_aload_n dL_decodes_118 rfl ?_
      refine g_iload_n dL_decodes_119 rfl ?_
      refine z_callVV dL_decodes_120 lm_L_48 lk_X8_decoded ((c_decoded hC (by omega)).as (k' := pushed k σ) (v := (-9)) (hd6)) rfl rfl m_c rfl (mkRoom rfl rfl) (Nat.le_of_ble_eq_true rfl) (Nat.le_of_ble_eq_true rfl) (Nat.le_of_ble_eq_true rfl) (fun M r hp => ?_)
      obtain ⟨rfl, hC, o1⟩ := hp
      have m_c : M c = _ := hC.1
      have m_a := (o1 _ (by omega)).trans m_a
      refine z_bipush dL_decodes_123 (by decide +kernel) ?_
      refine z_icmp_eq (tgt := 130) dL_decodes_125 (by decide) (by omega) (by omega) (fun c125 => ?_) (fun c125 => absurd c125 (by omega))
      refine z_iconst dL_decodes_130 ?_
      refine g_istore dL_decodes_131 (Nat.le_of_ble_eq_true rfl) ?_
      refine z_iconst dL_decodes_133 ?_
      refine g_istore dL_decodes_134 (Nat.le_of_ble_eq_true rfl) ?_
      exact loopC cs.length 0 M (pushed k σ) g (by omega) hC (hd4.trans h1) hd2 h3 hd3 m_a hg h64 _ _
    | succ u ih =>
      intro j M k g hj hC h1 h2 h3 m_a hg h64 K4 K6 K7
      have m_c : M c = _ := hC.1
      have hb := hbg j
      have hgj := hg j (by omega)
      have hlk : (sC k.1).length = j := by rw [h1, List.length_take]; omega
      have hap := ap_e (k := k) (a := g j) (by omega) (by omega)
      rw [hlk, h1] at hap
      have e2 : cs.take j ++ [g j] = cs.take (j + 1) := by
        rw [List.take_add_one, List.getElem?_eq_getElem (by omega), hgj, List.getD_eq_getElem?_getD, List.getElem?_eq_getElem (by omega)]
        rfl
      rw [e2] at hap
      refine g_iload dL_decodes_77 rfl ?_
      refine g_iload_n dL_decodes_79 rfl ?_
      refine z_icmp_ge (tgt := 106) dL_decodes_80 (by decide) (by omega) (by omega) (fun c80 => absurd c80 (by omega)) (fun c80 => ?_)
      refine g_aload_n dL_decodes_83 rfl ?_
      refine g_aload_n dL_decodes_84 rfl ?_
      refine g_iload dL_decodes_85 rfl ?_
      refine z_iaload (j := j) dL_decodes_87 m_a (by omega) (by omega) (by omega) ?_
      refine z_callVV dL_decodes_88 lm_L_57 lk_X8_append ((c_append hC (by omega)).as (k' := pushed k (sO k.1, sX k.1, sS k.1, sL k.1, sT k.1, cs.take (j + 1), sA k.1, sG k.1, sR k.1)) (v := ((j : Int) + 1)) (hap)) rfl rfl m_c rfl (mkRoom rfl rfl) (Nat.le_of_ble_eq_true rfl) (Nat.le_of_ble_eq_true rfl) (Nat.le_of_ble_eq_true rfl) (fun M r hp => ?_)
      obtain ⟨rfl, hC, o1⟩ := hp
      have m_c : M c = _ := hC.1
      have m_a := (o1 _ (by omega)).trans m_a
      refine g_iload dL_decodes_91 rfl ?_
      refine z_iconst dL_decodes_93 ?_
      refine z_iadd dL_decodes_94 ?_
      refine z_icmp_eq (tgt := 100) dL_decodes_95 (by decide) (by omega) (by omega) (fun c95 => ?_) (fun c95 => absurd c95 (by omega))
      refine z_iinc dL_decodes_100 rfl (Nat.le_of_ble_eq_true rfl) ?_
      refine g_goto (tgt := 77) dL_decodes_103 (by decide) ?_
      exact ih (j + 1) M _ g (by omega) hC rfl h2 h3 m_a hg h64 _ _ _
  have loopA : ∀ (u j : Nat) (M1 : pM) (g : Nat → Int), j + u = cs.length → CC M1 c (encd k0) → M1 z = some (arI 64 g) → (∀ i, i < j → g i = cs.getD i 0) → cs.length ≤ 64 → ∀ K5 K6 K7 : Option Value, G I_L_decodes 1 64 (fun M' z' r => z' = z + 1 ∧ r = some (vI 1) ∧ ∃ k' : kk, CC M' c k' ∧ sO k'.1 = sO k0.1 ∧ k'.2.2 = k0.2.2 ∧ ((sC k'.1).length ≤ 64 → sR k'.1 = k0.2.2)) 1 64 21 [some (.ref c), some (vI (n : Int)), some (vI (cs.length : Int)), some (.ref z), some (vI (j : Int)), K5, K6, K7] [] M1 (z + 1) := by
    intro u
    induction u with
    | zero =>
      intro j M g hj hC m_a hg h64 K5 K6 K7
      have m_c : M c = _ := hC.1
      have ej : j = cs.length := by omega
      subst ej
      have hlh : 0 < (hpush k0.2.1 k0.1).length := by unfold hpush; rw [List.length_append, List.length_singleton]; omega
      refine g_iload dL_decodes_21 rfl ?_
      refine g_iload_n dL_decodes_23 rfl ?_
      refine z_icmp_ge (tgt := 43) dL_decodes_24 (by decide) (by omega) (by omega) (fun c24 => ?_) (fun c24 => absurd c24 (by omega))
      refine g_aload_n dL_decodes_43 rfl ?_
      refine z_callVV dL_decodes_44 lm_L_87 lk_X8_undo ((c_undo hC).as (k' := (k0.1, (hpush k0.2.1 k0.1).dropLast, k0.2.2)) (v := (((hpush k0.2.1 k0.1).length - 1 : Nat) : Int)) (und_e)) rfl rfl m_c rfl (mkRoom rfl rfl) (Nat.le_of_ble_eq_true rfl) (Nat.le_of_ble_eq_true rfl) (Nat.le_of_ble_eq_true rfl) (fun M r hp => ?_)
      obtain ⟨rfl, hC, o1⟩ := hp
      have m_c : M c = _ := hC.1
      have m_a := (o1 _ (by omega)).trans m_a
      have hc4 := hC.facts.2.1
      have hc4 : (sC k0.1).length ≤ 400 := hc4
      have hhl : (hpush k0.2.1 k0.1).length ≤ 4 := hh0
      refine z_if_ge (tgt := 52) dL_decodes_47 (by decide) (by omega) (fun c47 => ?_) (fun c47 => absurd c47 (by omega))
      refine g_aload_n dL_decodes_52 rfl ?_
      refine z_callVV dL_decodes_53 lm_L_44 lk_X8_bytes ((c_bytes hC).as (k' := (k0.1, (hpush k0.2.1 k0.1).dropLast, k0.2.2)) (v := ((sC k0.1).length : Int)) (rfl)) rfl rfl m_c rfl (mkRoom rfl rfl) (Nat.le_of_ble_eq_true rfl) (Nat.le_of_ble_eq_true rfl) (Nat.le_of_ble_eq_true rfl) (fun M r hp => ?_)
      obtain ⟨rfl, hC, o1⟩ := hp
      have m_c : M c = _ := hC.1
      have m_a := (o1 _ (by omega)).trans m_a
      refine g_istore dL_decodes_56 (Nat.le_of_ble_eq_true rfl) ?_
      refine g_iload dL_decodes_58 rfl ?_
      refine z_if_le (tgt := 74) dL_decodes_60 (by decide) (by omega) (fun c60 => ?_) (fun c60 => ?_)
      · refine z_iconst dL_decodes_74 ?_
        refine g_istore dL_decodes_75 (Nat.le_of_ble_eq_true rfl) ?_
        first
        | exact loopB cs.length 0 M _ g (by omega) hC rfl ⟨rfl, rfl, rfl, rfl, rfl⟩ rfl m_a hg h64 _ _ _
        | exact loopB cs.length 0 M _ g (by omega) hC (by rw [List.take_zero]; exact List.eq_nil_of_length_eq_zero (show (sC k0.1).length = 0 by omega)) ⟨rfl, rfl, rfl, rfl, rfl⟩ rfl m_a hg h64 _ _ _
      · refine g_aload_n dL_decodes_63 rfl ?_
        refine g_iload dL_decodes_64 rfl ?_
        refine z_callVV dL_decodes_66 lm_L_54 lk_X8_cut ((c_cut hC (by omega)).as (k' := pushed (k0.1, (hpush k0.2.1 k0.1).dropLast, k0.2.2) (sO k0.1, sX k0.1, sS k0.1, sL k0.1, sT k0.1, [], sA k0.1, sG k0.1, sR k0.1)) (v := 0) (cu_e (by show 0 < (sC k0.1).length; omega) hc4)) rfl rfl m_c rfl (mkRoom rfl rfl) (Nat.le_of_ble_eq_true rfl) (Nat.le_of_ble_eq_true rfl) (Nat.le_of_ble_eq_true rfl) (fun M r hp => ?_)
        obtain ⟨rfl, hC, o1⟩ := hp
        have m_c : M c = _ := hC.1
        have m_a := (o1 _ (by omega)).trans m_a
        refine z_if_eq (tgt := 74) dL_decodes_69 (by decide) (by omega) (fun c69 => ?_) (fun c69 => absurd c69 (by omega))
        refine z_iconst dL_decodes_74 ?_
        refine g_istore dL_decodes_75 (Nat.le_of_ble_eq_true rfl) ?_
        first
        | exact loopB cs.length 0 M _ g (by omega) hC rfl ⟨rfl, rfl, rfl, rfl, rfl⟩ rfl m_a hg h64 _ _ _
        | exact loopB cs.length 0 M _ g (by omega) hC (by rw [List.take_zero]; exact List.eq_nil_of_length_eq_zero (show (sC k0.1).length = 0 by omega)) ⟨rfl, rfl, rfl, rfl, rfl⟩ rfl m_a hg h64 _ _ _
    | succ u ih =>
      intro j M g hj hC m_a hg h64 K5 K6 K7
      have m_c : M c = _ := hC.1
      have hb := hbg j
      refine g_iload dL_decodes_21 rfl ?_
      refine g_iload_n dL_decodes_23 rfl ?_
      refine z_icmp_ge (tgt := 43) dL_decodes_24 (by decide) (by omega) (by omega) (fun c24 => absurd c24 (by omega)) (fun c24 => ?_)
      refine g_aload_n dL_decodes_27 rfl ?_
      refine g_iload dL_decodes_28 rfl ?_
      refine g_aload_n dL_decodes_30 rfl ?_
      refine g_iload dL_decodes_31 rfl ?_
      refine z_callVV dL_decodes_33 lm_L_41 lk_X8_codeByte ((c_codeByte hC (by omega)).as (k' := encd k0) (v := (cs.getD j 0)) (by rw [cb_e (by rw [hcse]; omega), Int.toNat_natCast, hcse])) rfl rfl m_c rfl (mkRoom rfl rfl) (Nat.le_of_ble_eq_true rfl) (Nat.le_of_ble_eq_true rfl) (Nat.le_of_ble_eq_true rfl) (fun M r hp => ?_)
      obtain ⟨rfl, hC, o1⟩ := hp
      have m_c : M c = _ := hC.1
      have m_a := (o1 _ (by omega)).trans m_a
      refine z_iastore (j := j) dL_decodes_36 m_a (by omega) (by omega) (by omega) (fun M m_a o => ?_)
      have hC := hC.off (show Off _ M z (z + 1) from fun x hx => o x (by omega)) (by omega)
      have m_c : M c = _ := hC.1
      refine z_iinc dL_decodes_37 rfl (Nat.le_of_ble_eq_true rfl) ?_
      refine g_goto (tgt := 21) dL_decodes_40 (by decide) ?_
      exact ih (j + 1) M _ (by omega) hC m_a (fun i hi => by
        by_cases e : i = j
        · rw [e, upZ_s]
        · rw [upZ_n e]; exact hg i (by omega)) h64 _ _ _
  refine g_aload_n dL_decodes_0 rfl ?_
  refine z_callVV dL_decodes_1 lm_L_44 lk_X8_bytes ((c_bytes hC).as (k' := encd k0) (v := (cs.length : Int)) (by unfold oBytes; rw [hcse])) rfl rfl m_c rfl (mkRoom rfl rfl) (Nat.le_of_ble_eq_true rfl) (Nat.le_of_ble_eq_true rfl) (Nat.le_of_ble_eq_true rfl) (fun M r hp => ?_)
  obtain ⟨rfl, hC, o1⟩ := hp
  have m_c : M c = _ := hC.1
  refine g_istore_n dL_decodes_4 rfl (Nat.le_of_ble_eq_true rfl) ?_
  refine z_bipush dL_decodes_5 (by decide +kernel) ?_
  refine z_newI (N := 64) dL_decodes_7 rfl (by omega) (by omega) (by omega) (fun M _ m_a o => ?_)
  have hC := hC.off (show Off _ M z (z + 1) from fun x hx => o x (by omega)) (by omega)
  have m_c : M c = _ := hC.1
  refine g_astore_n dL_decodes_9 rfl (Nat.le_of_ble_eq_true rfl) ?_
  refine g_iload_n dL_decodes_10 rfl ?_
  refine z_bipush dL_decodes_11 (by decide +kernel) ?_
  refine z_icmp_le (tgt := 18) dL_decodes_13 (by decide) (by omega) (by omega) (fun c13 => ?_) (fun c13 => ?_)
  · refine z_iconst dL_decodes_18 ?_
    refine g_istore dL_decodes_19 (Nat.le_of_ble_eq_true rfl) ?_
    exact loopA cs.length 0 M _ (by omega) hC m_a (fun i hi => absurd hi (Nat.not_lt_zero _)) (by omega) _ _ _
  · refine z_iconst dL_decodes_16 ?_
    exact g_zreturn dL_decodes_17 rfl (by first | rfl | decide) (Nat.le_of_ble_eq_true rfl) (Nat.le_of_ble_eq_true rfl) ⟨rfl, rfl, encd k0, hC, rfl, rfl, fun h => absurd h (by rw [hcse]; omega)⟩
