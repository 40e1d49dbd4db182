/-! the law's check of a damaged code -/
theorem getD_set1 {ys : List Int} {n : Nat} {v : Int} (hn : n < ys.length) : (ys.set n v).getD n 0 = v := by
  rw [List.getD_eq_getElem?_getD, List.getElem?_set_self hn]; rfl
theorem und_e {k : kk} {σ : sg} : oUndo (pushed k σ) = ((((hpush k.2.1 k.1).length - 1 : Nat) : Int), (k.1, (hpush k.2.1 k.1).dropLast, k.2.2)) := by
  unfold oUndo pushed
  dsimp only
  rw [show (hpush k.2.1 k.1).getLast? = some k.1 by unfold hpush; exact List.getLast?_concat]
def flpd (a b : Int) (k : kk) : sg := (sO k.1, sX k.1, sS k.1, sL k.1, sT k.1, (sC k.1).set a.toNat ((((sC k.1).getD a.toNat 0).toNat ^^^ 2 ^ b.toNat : Nat)), sA k.1, sG k.1, sR k.1)
theorem fl_1 {k : kk} {a b : Int} (ha : 0 ≤ a ∧ a < (sC k.1).length) (hb : 0 ≤ b ∧ b ≤ 7) : oFlip a b k = (((((sC k.1).getD a.toNat 0).toNat ^^^ 2 ^ b.toNat : Nat) : Int), pushed k (flpd a b k)) := by
  unfold oFlip
  rw [if_pos ⟨ha, hb⟩]
  rfl
/-- a bit that is inverted twice -/
theorem fl_2 {k k1 : kk} {a b : Int} (h1 : k1.1 = flpd a b k) (hB : okB (sC k.1)) (ha : 0 ≤ a ∧ a < (sC k.1).length) (hb : 0 ≤ b ∧ b ≤ 7) : oFlip a b k1 = ((sC k.1).getD a.toNat 0, pushed k1 (flpd a b k1)) := by
  have hc : sC k1.1 = (sC k.1).set a.toNat ((((sC k.1).getD a.toNat 0).toNat ^^^ 2 ^ b.toNat : Nat)) := by rw [h1]; rfl
  have hg := hB.get a.toNat
  rw [fl_1 (by rw [hc, List.length_set]; exact ha) hb, hc, getD_set1 (by omega)]
  congr 1
  rw [Int.toNat_natCast, Nat.xor_assoc, Nat.xor_self, Nat.xor_zero]
  omega
theorem dc_cases (k : kk) : (∃ v : Int, oDecode k = (v, k) ∧ -103 ≤ v ∧ v ≤ -101) ∨ (∃ σ : sg, oDecode k = (((sR σ).length : Int), pushed k σ)) := by
  have h0 := drun_rng (ord := sO k.1) (exc := sX k.1) (stp := sS k.1) (lim := sL k.1) (cs := sC k.1) 201 (sT k.1) [] (dbeg (sC k.1))
  have h1 : 0 ≤ (dres k.1).1 ∧ (dres k.1).1 ≤ 3 := h0
  unfold oDecode
  by_cases e : (dres k.1).1 = 0
  · rw [if_pos e]
    split
    · exact Or.inr ⟨(sO k.1, sX k.1, sS k.1, sL k.1, (crun (sO k.1) (sX k.1) (sS k.1) (sL k.1) (dres k.1).2.2 (sT k.1) ((dres k.1).2.2.length + 1)).1, sC k.1, sA k.1, sG k.1, (dres k.1).2.2), rfl⟩
    · exact Or.inl ⟨-103, rfl, by omega, by omega⟩
  · rw [if_neg e]
    exact Or.inl ⟨_, rfl, by omega, by omega⟩
set_option maxHeartbeats 4000000 in
theorem x_damages {M : pM} {z c : Nat} {k : kk} {q : Int} (hC : CC M c k) (hq : -2147483648 ≤ q ∧ q < 2147483648) : CW I_L_damages yL_damages [.ref c, vI q] M z (fun M' r => r = some (vI 1) ∧ (∃ k' : kk, CC M' c k' ∧ sO k'.1 = sO k.1 ∧ k'.2.2 = k.2.2) ∧ Off M M' c (c + 131)) := by
  obtain ⟨hG, hc1, hc2, hc3, hc4, hc5, hc6⟩ := hC.facts
  have m_c : M c = _ := hC.1
  have fr : Off M M c (c + 131) := Off.rf
  have hB := hG.2.2.1
  refine C.intro (pl := [some (.ref c), some (vI q), none, none, none, none, none, none, none, none]) pn_L rfl (fun h => absurd h (by decide)) rfl (Nat.le_of_ble_eq_true rfl) rfl ?_
  by_cases h0 : (sC k.1).length = 0
  · refine g_aload_n dL_damages_0 rfl ?_
    refine z_callVV dL_damages_1 lm_L_44 lk_X8_bytes ((c_bytes hC).as (k' := k) (v := ((sC k.1).length : Int)) (rfl)) rfl rfl m_c rfl (mkRoom rfl rfl) (Nat.le_of_ble_eq_true rfl) (Nat.le_of_ble_eq_true rfl) (Nat.le_of_ble_eq_true rfl) (fun M r hp => ?_)
    obtain ⟨rfl, hC, o1⟩ := hp
    have m_c : M c = _ := hC.1
    have fr := fr.tr o1
    refine g_istore_n dL_damages_4 rfl (Nat.le_of_ble_eq_true rfl) ?_
    refine g_iload_n dL_damages_5 rfl ?_
    refine z_if_ne (tgt := 11) dL_damages_6 (by decide) (by omega) (fun c6 => absurd c6 (by omega)) (fun c6 => ?_)
    refine z_iconst dL_damages_9 ?_
    exact g_zreturn dL_damages_10 rfl (by first | rfl | decide) (Nat.le_of_ble_eq_true rfl) (Nat.le_of_ble_eq_true rfl) ⟨rfl, rfl, ⟨k, hC, rfl, rfl⟩, fr⟩
  obtain ⟨a, ha⟩ : ∃ a, upz q ((sC k.1).length : Int) = a := ⟨_, rfl⟩
  obtain ⟨b, hb⟩ : ∃ b, upz (q / 2 ^ 7) 8 = b := ⟨_, rfl⟩
  have hr1 := upz_rng (a := q) (m := ((sC k.1).length : Int)) (by omega)
  have hr2 := upz_rng (a := q / 2 ^ 7) (m := 8) (by omega)
  rw [ha] at hr1
  rw [hb] at hr2
  have hg := hB.get a.toNat
  have hf1 := fl_1 (k := k) (a := a) (b := b) hr1 (by omega)
  have hx1 : (((sC k.1).getD a.toNat 0).toNat ^^^ 2 ^ b.toNat) < 256 := Nat.xor_lt_two_pow (n := 8) (by omega) (Nat.pow_lt_pow_right (by decide) (by omega))
  have hbb : b = ((b.toNat : Nat) : Int) := by omega
  have hf2 : ∀ (h : List sg), oFlip a b (flpd a b k, h, k.2.2) = ((sC k.1).getD a.toNat 0, pushed (flpd a b k, h, k.2.2) (flpd a b (flpd a b k, h, k.2.2))) := fun h => fl_2 (k := k) rfl hB hr1 (by omega)
  rcases dc_cases (flpd a b k, hpush k.2.1 k.1, k.2.2) with ⟨v, hd1, hd2, hd3⟩ | ⟨σ, hd1⟩
  · refine g_aload_n dL_damages_0 rfl ?_
    refine z_callVV dL_damages_1 lm_L_44 lk_X8_bytes ((c_bytes hC).as (k' := k) (v := ((sC k.1).length : Int)) (rfl)) rfl rfl m_c rfl (mkRoom rfl rfl) (Nat.le_of_ble_eq_true rfl) (Nat.le_of_ble_eq_true rfl) (Nat.le_of_ble_eq_true rfl) (fun M r hp => ?_)
    obtain ⟨rfl, hC, o1⟩ := hp
    have m_c : M c = _ := hC.1
    have fr := fr.tr o1
    refine g_istore_n dL_damages_4 rfl (Nat.le_of_ble_eq_true rfl) ?_
    refine g_iload_n dL_damages_5 rfl ?_
    refine z_if_ne (tgt := 11) dL_damages_6 (by decide) (by omega) (fun c6 => ?_) (fun c6 => absurd c6 (by omega))
    refine g_iload_n dL_damages_11 rfl ?_
    refine g_iload_n dL_damages_12 rfl ?_
    refine z_callSR dL_damages_13 lm_L_70 lk_L_up ((x_up hq (by omega)).eq (by rw [ha])) rfl rfl (mkRoom rfl rfl) (Nat.le_of_ble_eq_true rfl) (Nat.le_of_ble_eq_true rfl) (Nat.le_of_ble_eq_true rfl) ?_
    refine g_istore_n dL_damages_16 rfl (Nat.le_of_ble_eq_true rfl) ?_
    refine g_iload_n dL_damages_17 rfl ?_
    refine z_bipush dL_damages_18 (by decide +kernel) ?_
    refine g_ishr dL_damages_20 ?_
    refine G.top (v' := vI (q / 2 ^ 7)) (by rw [show (7 : Int) = ((7 : Nat) : Int) from rfl, iZ_shr hq (by omega)]) ?_
    refine z_bipush dL_damages_21 (by decide +kernel) ?_
    refine z_callSR dL_damages_23 lm_L_70 lk_L_up ((x_up (div_rng hq _) (by omega)).eq (by rw [hb])) rfl rfl (mkRoom rfl rfl) (Nat.le_of_ble_eq_true rfl) (Nat.le_of_ble_eq_true rfl) (Nat.le_of_ble_eq_true rfl) ?_
    refine g_istore dL_damages_26 (Nat.le_of_ble_eq_true rfl) ?_
    refine g_aload_n dL_damages_28 rfl ?_
    refine g_iload_n dL_damages_29 rfl ?_
    refine z_callVV dL_damages_30 lm_L_41 lk_X8_codeByte ((c_codeByte hC (by omega)).as (k' := k) (v := ((sC k.1).getD a.toNat 0)) (cb_e (by omega))) rfl rfl m_c rfl (mkRoom rfl rfl) (Nat.le_of_ble_eq_true rfl) (Nat.le_of_ble_eq_true rfl) (Nat.le_of_ble_eq_true rfl) (fun M r hp => ?_)
    obtain ⟨rfl, hC, o1⟩ := hp
    have m_c : M c = _ := hC.1
    have fr := fr.tr o1
    refine g_istore dL_damages_33 (Nat.le_of_ble_eq_true rfl) ?_
    refine g_aload_n dL_damages_35 rfl ?_
    refine g_iload_n dL_damages_36 rfl ?_
    refine g_iload dL_damages_37 rfl ?_
    refine z_callVV dL_damages_39 lm_L_51 lk_X8_flip ((c_flip hC (by omega) (by omega)).as (k' := (flpd a b k, hpush k.2.1 k.1, k.2.2)) (v := ((((sC k.1).getD a.toNat 0).toNat ^^^ 2 ^ b.toNat : Nat) : Int)) (hf1)) rfl rfl m_c rfl (mkRoom rfl rfl) (Nat.le_of_ble_eq_true rfl) (Nat.le_of_ble_eq_true rfl) (Nat.le_of_ble_eq_true rfl) (fun M r hp => ?_)
    obtain ⟨rfl, hC, o1⟩ := hp
    have m_c : M c = _ := hC.1
    have fr := fr.tr o1
    refine g_istore dL_damages_42 (Nat.le_of_ble_eq_true rfl) ?_
    refine g_iload dL_damages_44 rfl ?_
    refine g_iload dL_damages_46 rfl ?_
    refine z_iconst dL_damages_48 ?_
    refine g_iload dL_damages_49 rfl ?_
    refine g_ishl dL_damages_51 ?_
    refine G.top (v' := vI (((2 : Nat) ^ b.toNat : Nat) : Int)) (by rw [hbb, iZ_shl 1 (by omega), Int.one_mul, Int.toNat_natCast]; push_cast; rfl) ?_
    refine g_ixor dL_damages_52 ?_
    refine G.top (v' := vI ((((sC k.1).getD a.toNat 0).toNat ^^^ 2 ^ b.toNat : Nat) : Int)) (by rw [show (sC k.1).getD a.toNat 0 = ((((sC k.1).getD a.toNat 0).toNat : Nat) : Int) by omega, iZ_xor, Int.toNat_natCast]) ?_
    refine g_icmp_eq (tgt := 58) dL_damages_53 (by decide) (fun _ => ?_) (fun h => absurd rfl h)
    refine g_aload_n dL_damages_58 rfl ?_
    refine z_callVV dL_damages_59 lm_L_9 lk_X8_fingerprint (c_fingerprint (k := (flpd a b k, hpush k.2.1 k.1, k.2.2)) hC) rfl rfl m_c rfl (mkRoom rfl rfl) (Nat.le_of_ble_eq_true rfl) (Nat.le_of_ble_eq_true rfl) (Nat.le_of_ble_eq_true rfl) (fun M r hp => ?_)
    obtain ⟨rfl, hC, o1⟩ := hp
    have m_c : M c = _ := hC.1
    have fr := fr.tr o1
    refine g_lstore dL_damages_62 (Nat.le_of_ble_eq_true rfl) ?_
    refine g_aload_n dL_damages_64 rfl ?_
    refine z_callVV dL_damages_65 lm_L_90 lk_X8_decode ((c_decode hC).as (k' := (flpd a b k, hpush k.2.1 k.1, k.2.2)) (v := v) (hd1)) rfl rfl m_c rfl (mkRoom rfl rfl) (Nat.le_of_ble_eq_true rfl) (Nat.le_of_ble_eq_true rfl) (Nat.le_of_ble_eq_true rfl) (fun M r hp => ?_)
    obtain ⟨rfl, hC, o1⟩ := hp
    have m_c : M c = _ := hC.1
    have fr := fr.tr o1
    refine g_istore dL_damages_68 (Nat.le_of_ble_eq_true rfl) ?_
    refine g_iload dL_damages_70 rfl ?_
    refine z_if_ge (tgt := 117) dL_damages_72 (by decide) (by omega) (fun c72 => absurd c72 (by omega)) (fun c72 => ?_)
    refine g_iload dL_damages_75 rfl ?_
    refine z_bipush dL_damages_77 (by decide +kernel) ?_
    refine z_icmp_lt (tgt := 115) dL_damages_79 (by decide) (by omega) (by omega) (fun c79 => absurd c79 (by omega)) (fun c79 => ?_)
    refine g_iload dL_damages_82 rfl ?_
    refine z_bipush dL_damages_84 (by decide +kernel) ?_
    refine z_icmp_gt (tgt := 115) dL_damages_86 (by decide) (by omega) (by omega) (fun c86 => absurd c86 (by omega)) (fun c86 => ?_)
    refine g_aload_n dL_damages_89 rfl ?_
    refine z_callVV dL_damages_90 lm_L_9 lk_X8_fingerprint (c_fingerprint (k := (flpd a b k, hpush k.2.1 k.1, k.2.2)) hC) rfl rfl m_c rfl (mkRoom rfl rfl) (Nat.le_of_ble_eq_true rfl) (Nat.le_of_ble_eq_true rfl) (Nat.le_of_ble_eq_true rfl) (fun M r hp => ?_)
    obtain ⟨rfl, hC, o1⟩ := hp
    have m_c : M c = _ := hC.1
    have fr := fr.tr o1
    refine g_lload dL_damages_93 rfl ?_
    refine g_lcmp dL_damages_95 ?_
    refine G.top (v' := vI 0) (by rw [cmp_self]; rfl) ?_
    refine z_if_ne (tgt := 115) dL_damages_96 (by decide) (by omega) (fun c96 => absurd c96 (by omega)) (fun c96 => ?_)
    refine g_aload_n dL_damages_99 rfl ?_
    refine g_iload_n dL_damages_100 rfl ?_
    refine g_iload dL_damages_101 rfl ?_
    refine z_callVV dL_damages_103 lm_L_51 lk_X8_flip ((c_flip hC (by omega) (by omega)).as (k' := pushed (flpd a b k, hpush k.2.1 k.1, k.2.2) (flpd a b (flpd a b k, hpush k.2.1 k.1, k.2.2))) (v := ((sC k.1).getD a.toNat 0)) (hf2 _)) rfl rfl m_c rfl (mkRoom rfl rfl) (Nat.le_of_ble_eq_true rfl) (Nat.le_of_ble_eq_true rfl) (Nat.le_of_ble_eq_true rfl) (fun M r hp => ?_)
    obtain ⟨rfl, hC, o1⟩ := hp
    have m_c : M c = _ := hC.1
    have fr := fr.tr o1
    refine g_iload dL_damages_106 rfl ?_
    refine z_icmp_ne (tgt := 115) dL_damages_108 (by decide) (by omega) (by omega) (fun c108 => absurd c108 (by omega)) (fun c108 => ?_)
    refine z_iconst dL_damages_111 ?_
    refine g_goto (tgt := 116) dL_damages_112 (by decide) ?_
    exact g_zreturn dL_damages_116 rfl (by first | rfl | decide) (Nat.le_of_ble_eq_true rfl) (Nat.le_of_ble_eq_true rfl) ⟨rfl, rfl, ⟨_, hC, rfl, rfl⟩, fr⟩
  · refine g_aload_n dL_damages_0 rfl ?_
    refine z_callVV dL_damages_1 lm_L_44 lk_X8_bytes ((c_bytes hC).as (k' := k) (v := ((sC k.1).length : Int)) (rfl)) rfl rfl m_c rfl (mkRoom rfl rfl) (Nat.le_of_ble_eq_true rfl) (Nat.le_of_ble_eq_true rfl) (Nat.le_of_ble_eq_true rfl) (fun M r hp => ?_)
    obtain ⟨rfl, hC, o1⟩ := hp
    have m_c : M c = _ := hC.1
    have fr := fr.tr o1
    refine g_istore_n dL_damages_4 rfl (Nat.le_of_ble_eq_true rfl) ?_
    refine g_iload_n dL_damages_5 rfl ?_
    refine z_if_ne (tgt := 11) dL_damages_6 (by decide) (by omega) (fun c6 => ?_) (fun c6 => absurd c6 (by omega))
    refine g_iload_n dL_damages_11 rfl ?_
    refine g_iload_n dL_damages_12 rfl ?_
    refine z_callSR dL_damages_13 lm_L_70 lk_L_up ((x_up hq (by omega)).eq (by rw [ha])) rfl rfl (mkRoom rfl rfl) (Nat.le_of_ble_eq_true rfl) (Nat.le_of_ble_eq_true rfl) (Nat.le_of_ble_eq_true rfl) ?_
    refine g_istore_n dL_damages_16 rfl (Nat.le_of_ble_eq_true rfl) ?_
    refine g_iload_n dL_damages_17 rfl ?_
    refine z_bipush dL_damages_18 (by decide +kernel) ?_
    refine g_ishr dL_damages_20 ?_
    refine G.top (v' := vI (q / 2 ^ 7)) (by rw [show (7 : Int) = ((7 : Nat) : Int) from rfl, iZ_shr hq (by omega)]) ?_
    refine z_bipush dL_damages_21 (by decide +kernel) ?_
    refine z_callSR dL_damages_23 lm_L_70 lk_L_up ((x_up (div_rng hq _) (by omega)).eq (by rw [hb])) rfl rfl (mkRoom rfl rfl) (Nat.le_of_ble_eq_true rfl) (Nat.le_of_ble_eq_true rfl) (Nat.le_of_ble_eq_true rfl) ?_
    refine g_istore dL_damages_26 (Nat.le_of_ble_eq_true rfl) ?_
    refine g_aload_n dL_damages_28 rfl ?_
    refine g_iload_n dL_damages_29 rfl ?_
    refine z_callVV dL_damages_30 lm_L_41 lk_X8_codeByte ((c_codeByte hC (by omega)).as (k' := k) (v := ((sC k.1).getD a.toNat 0)) (cb_e (by omega))) rfl rfl m_c rfl (mkRoom rfl rfl) (Nat.le_of_ble_eq_true rfl) (Nat.le_of_ble_eq_true rfl) (Nat.le_of_ble_eq_true rfl) (fun M r hp => ?_)
    obtain ⟨rfl, hC, o1⟩ := hp
    have m_c : M c = _ := hC.1
    have fr := fr.tr o1
    refine g_istore dL_damages_33 (Nat.le_of_ble_eq_true rfl) ?_
    refine g_aload_n dL_damages_35 rfl ?_
    refine g_iload_n dL_damages_36 rfl ?_
    refine g_iload dL_damages_37 rfl ?_
    refine z_callVV dL_damages_39 lm_L_51 lk_X8_flip ((c_flip hC (by omega) (by omega)).as (k' := (flpd a b k, hpush k.2.1 k.1, k.2.2)) (v := ((((sC k.1).getD a.toNat 0).toNat ^^^ 2 ^ b.toNat : Nat) : Int)) (hf1)) rfl rfl m_c rfl (mkRoom rfl rfl) (Nat.le_of_ble_eq_true rfl) (Nat.le_of_ble_eq_true rfl) (Nat.le_of_ble_eq_true rfl) (fun M r hp => ?_)
    obtain ⟨rfl, hC, o1⟩ := hp
    have m_c : M c = _ := hC.1
    have fr := fr.tr o1
    refine g_istore dL_damages_42 (Nat.le_of_ble_eq_true rfl) ?_
    refine g_iload dL_damages_44 rfl ?_
    refine g_iload dL_damages_46 rfl ?_
    refine z_iconst dL_damages_48 ?_
    refine g_iload dL_damages_49 rfl ?_
    refine g_ishl dL_damages_51 ?_
    refine G.top (v' := vI (((2 : Nat) ^ b.toNat : Nat) : Int)) (by rw [hbb, iZ_shl 1 (by omega), Int.one_mul, Int.toNat_natCast]; push_cast; rfl) ?_
    refine g_ixor dL_damages_52 ?_
    refine G.top (v' := vI ((((sC k.1).getD a.toNat 0).toNat ^^^ 2 ^ b.toNat : Nat) : Int)) (by rw [show (sC k.1).getD a.toNat 0 = ((((sC k.1).getD a.toNat 0).toNat : Nat) : Int) by omega, iZ_xor, Int.toNat_natCast]) ?_
    refine g_icmp_eq (tgt := 58) dL_damages_53 (by decide) (fun _ => ?_) (fun h => absurd rfl h)
    refine g_aload_n dL_damages_58 rfl ?_
    refine z_callVV dL_damages_59 lm_L_9 lk_X8_fingerprint (c_fingerprint (k := (flpd a b k, hpush k.2.1 k.1, k.2.2)) hC) rfl rfl m_c rfl (mkRoom rfl rfl) (Nat.le_of_ble_eq_true rfl) (Nat.le_of_ble_eq_true rfl) (Nat.le_of_ble_eq_true rfl) (fun M r hp => ?_)
    obtain ⟨rfl, hC, o1⟩ := hp
    have m_c : M c = _ := hC.1
    have fr := fr.tr o1
    refine g_lstore dL_damages_62 (Nat.le_of_ble_eq_true rfl) ?_
    refine g_aload_n dL_damages_64 rfl ?_
    refine z_callVV dL_damages_65 lm_L_90 lk_X8_decode ((c_decode hC).as (k' := pushed (flpd a b k, hpush k.2.1 k.1, k.2.2) σ) (v := ((sR σ).length : Int)) (hd1)) rfl rfl m_c rfl (mkRoom rfl rfl) (Nat.le_of_ble_eq_true rfl) (Nat.le_of_ble_eq_true rfl) (Nat.le_of_ble_eq_true rfl) (fun M r hp => ?_)
    obtain ⟨rfl, hC, o1⟩ := hp
    have m_c : M c = _ := hC.1
    have fr := fr.tr o1
    have hcR : (sR σ).length ≤ 200 := hC.facts.2.2.2.1
    refine g_istore dL_damages_68 (Nat.le_of_ble_eq_true rfl) ?_
    refine g_iload dL_damages_70 rfl ?_
    refine z_if_ge (tgt := 117) dL_damages_72 (by decide) (by omega) (fun c72 => ?_) (fun c72 => absurd c72 (by omega))
    refine g_iload dL_damages_117 rfl ?_
    refine z_sipush dL_damages_119 (by decide +kernel) ?_
    refine z_icmp_gt (tgt := 158) dL_damages_122 (by decide) (by omega) (by omega) (fun c122 => absurd c122 (by omega)) (fun c122 => ?_)
    refine g_aload_n dL_damages_125 rfl ?_
    refine z_callVV dL_damages_126 lm_L_87 lk_X8_undo ((c_undo hC).as (k' := (flpd a b k, (hpush (hpush k.2.1 k.1) (flpd a b k)).dropLast, k.2.2)) (v := (((hpush (hpush k.2.1 k.1) (flpd a b k)).length - 1 : Nat) : Int)) (und_e)) rfl rfl m_c rfl (mkRoom rfl rfl) (Nat.le_of_ble_eq_true rfl) (Nat.le_of_ble_eq_true rfl) (Nat.le_of_ble_eq_true rfl) (fun M r hp => ?_)
    obtain ⟨rfl, hC, o1⟩ := hp
    have m_c : M c = _ := hC.1
    have fr := fr.tr o1
    have hh1 : (hpush k.2.1 k.1).length ≤ 4 := by have := hpush_len (h := k.2.1) (σ := k.1) hc6; split at this <;> omega
    have hhl := hpush_len (h := hpush k.2.1 k.1) (σ := flpd a b k) hh1
    have hhl2 : (hpush (hpush k.2.1 k.1) (flpd a b k)).length ≤ 5 := by split at hhl <;> omega
    refine z_if_lt (tgt := 158) dL_damages_129 (by decide) (by omega) (fun c129 => absurd c129 (by omega)) (fun c129 => ?_)
    refine g_aload_n dL_damages_132 rfl ?_
    refine z_callVV dL_damages_133 lm_L_9 lk_X8_fingerprint (c_fingerprint (k := (flpd a b k, (hpush (hpush k.2.1 k.1) (flpd a b k)).dropLast, k.2.2)) hC) rfl rfl m_c rfl (mkRoom rfl rfl) (Nat.le_of_ble_eq_true rfl) (Nat.le_of_ble_eq_true rfl) (Nat.le_of_ble_eq_true rfl) (fun M r hp => ?_)
    obtain ⟨rfl, hC, o1⟩ := hp
    have m_c : M c = _ := hC.1
    have fr := fr.tr o1
    refine g_lload dL_damages_136 rfl ?_
    refine g_lcmp dL_damages_138 ?_
    refine G.top (v' := vI 0) (by rw [cmp_self]; rfl) ?_
    refine z_if_ne (tgt := 158) dL_damages_139 (by decide) (by omega) (fun c139 => absurd c139 (by omega)) (fun c139 => ?_)
    refine g_aload_n dL_damages_142 rfl ?_
    refine g_iload_n dL_damages_143 rfl ?_
    refine g_iload dL_damages_144 rfl ?_
    refine z_callVV dL_damages_146 lm_L_51 lk_X8_flip ((c_flip hC (by omega) (by omega)).as (k' := pushed (flpd a b k, (hpush (hpush k.2.1 k.1) (flpd a b k)).dropLast, k.2.2) (flpd a b (flpd a b k, (hpush (hpush k.2.1 k.1) (flpd a b k)).dropLast, k.2.2))) (v := ((sC k.1).getD a.toNat 0)) (hf2 _)) rfl rfl m_c rfl (mkRoom rfl rfl) (Nat.le_of_ble_eq_true rfl) (Nat.le_of_ble_eq_true rfl) (Nat.le_of_ble_eq_true rfl) (fun M r hp => ?_)
    obtain ⟨rfl, hC, o1⟩ := hp
    have m_c : M c = _ := hC.1
    have fr := fr.tr o1
    refine g_iload dL_damages_149 rfl ?_
    refine z_icmp_ne (tgt := 158) dL_damages_151 (by decide) (by omega) (by omega) (fun c151 => absurd c151 (by omega)) (fun c151 => ?_)
    refine z_iconst dL_damages_154 ?_
    refine g_goto (tgt := 159) dL_damages_155 (by decide) ?_
    exact g_zreturn dL_damages_159 rfl (by first | rfl | decide) (Nat.le_of_ble_eq_true rfl) (Nat.le_of_ble_eq_true rfl) ⟨rfl, rfl, ⟨_, hC, rfl, rfl⟩, fr⟩
