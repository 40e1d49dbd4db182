/-! the law's body: the class and the reference side by side -/
theorem x32_rng (x : Int32) : -2147483648 ≤ x.toInt ∧ x.toInt < 2147483648 := iZ_rng x
theorem cmp_self (x : Int64) : lg_cmp x x = 0 := by
  unfold lg_cmp
  rw [if_neg (by simp), if_pos rfl]
set_option maxHeartbeats 1000000 in
theorem x_cell {bS LS : Nat} {xS : Nat → Int32} (hL : LS ≤ 1537) {M : pM} {z : Nat} : CX bS LS xS I_L_cell yL_cell [.ref bS, vI 0] M z (vI (if 0 < LS then (xS 0).toInt else 0)) := by
  refine CX.intro (pl := [some (.ref bS), some (vI 0)]) pn_L rfl (fun h => absurd h (by decide)) rfl (Nat.le_of_ble_eq_true rfl) rfl ?_
  refine hg_iload_n dL_cell_0 rfl ?_
  refine hg_aload_n dL_cell_1 rfl ?_
  refine hz_slen dL_cell_2 ?_
  refine hz_icmp_ge (tgt := 12) dL_cell_3 (by decide) (by omega) (by omega) (fun c3 => ?_) (fun c3 => ?_)
  · refine hz_iconst dL_cell_12 ?_
    exact hg_ireturn dL_cell_13 rfl (Nat.le_of_ble_eq_true rfl) (Nat.le_of_ble_eq_true rfl) ⟨rfl, rfl, by rw [if_neg (by omega)]⟩
  · refine hg_aload_n dL_cell_6 rfl ?_
    refine hg_iload_n dL_cell_7 rfl ?_
    refine hz_sld (j := 0) dL_cell_8 (by omega) (by omega) (by omega) ?_
    refine hg_goto (tgt := 13) dL_cell_9 (by decide) ?_
    exact hg_ireturn dL_cell_13 rfl (Nat.le_of_ble_eq_true rfl) (Nat.le_of_ble_eq_true rfl) ⟨rfl, rfl, by rw [if_pos (by omega)]⟩
set_option maxHeartbeats 4000000 in
theorem law_loop {bS LS : Nat} {xS : Nat → Int32} (hL : LS ≤ 1537) {c kq nq : Nat} (hkq : kq ≤ 600000) (hnq : nq ≤ 7302250) : ∀ (u i : Nat) (M : pM) (k : kk), 1 ≤ i → i ≤ 2000 → LS ≤ i + 2 + 3 * u → CC M c k → RM M (c + 131) k → GS bS LS xS I_L_law 600000 7302250 (fun M' z' r' => r' = some (vI 1)) kq nq 28 [some (.ref bS), some (.ref c), some (.ref (c + 131)), some (vI (i : Int))] [] M (c + 140) := by
  intro u
  induction u with
  | zero =>
    intro i M k hi hi2 hu hC hR
    refine hg_iload_n dL_law_28 rfl ?_
    refine hg_aload_n dL_law_29 rfl ?_
    refine hz_slen dL_law_30 ?_
    refine hz_iconst dL_law_31 ?_
    refine hz_isub dL_law_32 ?_
    refine hz_icmp_gt (tgt := 755) dL_law_33 (by decide) (by omega) (by omega) (fun c33 => ?_) (fun c33 => absurd c33 (by omega))
    refine hz_iconst dL_law_755 ?_
    exact hg_zreturn dL_law_756 rfl (by first | rfl | decide) hkq hnq rfl
  | succ u ih =>
    intro i M k hi hi2 hu hC hR
    refine hg_iload_n dL_law_28 rfl ?_
    refine hg_aload_n dL_law_29 rfl ?_
    refine hz_slen dL_law_30 ?_
    refine hz_iconst dL_law_31 ?_
    refine hz_isub dL_law_32 ?_
    refine hz_icmp_gt (tgt := 755) dL_law_33 (by decide) (by omega) (by omega) (fun c33 => ?_) (fun c33 => ?_)
    · refine hz_iconst dL_law_755 ?_
      exact hg_zreturn dL_law_756 rfl (by first | rfl | decide) hkq hnq rfl
    refine hg_aload_n dL_law_36 rfl ?_
    refine hg_iload_n dL_law_37 rfl ?_
    refine hz_sld (j := i) dL_law_38 (by omega) (by omega) (by omega) ?_
    refine hz_bipush dL_law_39 (by decide +kernel) ?_
    refine hg_iand dL_law_41 ?_
    refine GS.top (v' := vI ((xS i).toInt % 32)) (by rw [iZ_and31]) ?_
    have hr1 := x32_rng (xS (i + 1))
    have hr2 := x32_rng (xS (i + 2))
    have hsw : 0 ≤ (xS i).toInt % 32 ∧ (xS i).toInt % 32 < 32 := by omega
    have fin : ∀ (M : pM) (k : kk), CC M c k → RM M (c + 131) k → GS bS LS xS I_L_law 600000 7302250 (fun M' z' r' => r' = some (vI 1)) kq nq 749 [some (.ref bS), some (.ref c), some (.ref (c + 131)), some (vI (i : Int))] [] M (c + 140) := fun M k hC hR => by
      refine hz_iinc dL_law_749 rfl (Nat.le_of_ble_eq_true rfl) ?_
      refine hg_goto (tgt := 28) dL_law_752 (by decide) ?_
      exact ih (i + 3) M k (by omega) (by omega) (by omega) hC hR
    generalize (xS i).toInt % 32 = w at hsw ⊢
    have m_c0 := hC.1
    have m_c : M c = _ := m_c0
    have m_d0 := hR
    obtain ⟨g0, gp0, e0, co0, ec0, cd0, wr0, tc0, mo0, tk0, fm0, ex0, m_d, -⟩ := m_d0
    by_cases w0 : w = 0
    · refine hz_tswIn (j := 0) (tgt := 168) dL_law_42 (by omega) (by omega) (by decide) rfl (by decide) ?_
      refine hg_aload_n dL_law_168 rfl ?_
      refine hg_aload_n dL_law_169 rfl ?_
      refine hg_iload_n dL_law_170 rfl ?_
      refine hz_iconst dL_law_171 ?_
      refine hz_iadd dL_law_172 ?_
      refine hz_sld (j := i + 1) dL_law_173 (by omega) (by omega) (by omega) ?_
      refine hz_callVV dL_law_174 lm_L_21 lk_X8_setOrder (c_setOrder hC hr1) rfl rfl m_c rfl (mkRoom rfl rfl) (Nat.le_of_ble_eq_true rfl) hkq hnq (fun M r hp => ?_)
      obtain ⟨rfl, hC, o1⟩ := hp
      have hR := hR.off o1 (by omega)
      have m_d := (o1 _ (by omega)).trans m_d
      refine hg_aload_n dL_law_177 rfl ?_
      refine hg_aload_n dL_law_178 rfl ?_
      refine hg_iload_n dL_law_179 rfl ?_
      refine hz_iconst dL_law_180 ?_
      refine hz_iadd dL_law_181 ?_
      refine hz_sld (j := i + 1) dL_law_182 (by omega) (by omega) (by omega) ?_
      refine hz_callVV dL_law_183 lm_L_25 lk_X9_setOrder (k_setOrder hR hr1) rfl rfl m_d rfl (mkRoom rfl rfl) (Nat.le_of_ble_eq_true rfl) hkq hnq (fun M r hp => ?_)
      obtain ⟨rfl, hR, o1⟩ := hp
      have hC := hC.off o1 (by omega)
      first
      | exact hg_icmp_eq (tgt := 749) dL_law_186 (by decide) (fun _ => fin M _ hC hR) (fun h => absurd rfl h)
      | (exfalso; omega)
    by_cases w1 : w = 1
    · refine hz_tswIn (j := 1) (tgt := 191) dL_law_42 (by omega) (by omega) (by decide) rfl (by decide) ?_
      refine hg_aload_n dL_law_191 rfl ?_
      refine hg_aload_n dL_law_192 rfl ?_
      refine hg_iload_n dL_law_193 rfl ?_
      refine hz_iconst dL_law_194 ?_
      refine hz_iadd dL_law_195 ?_
      refine hz_sld (j := i + 1) dL_law_196 (by omega) (by omega) (by omega) ?_
      refine hz_if_eq (tgt := 204) dL_law_197 (by decide) hr1 (fun c197 => ?_) (fun c197 => ?_)
      · refine hz_iconst dL_law_204 ?_
        refine hz_callVV dL_law_205 lm_L_26 lk_X8_setExclusion (c_setExclusion hC (by decide) (by decide)) rfl rfl m_c rfl (mkRoom rfl rfl) (Nat.le_of_ble_eq_true rfl) hkq hnq (fun M r hp => ?_)
        obtain ⟨rfl, hC, o1⟩ := hp
        have hR := hR.off o1 (by omega)
        have m_d := (o1 _ (by omega)).trans m_d
        refine hg_aload_n dL_law_208 rfl ?_
        refine hg_aload_n dL_law_209 rfl ?_
        refine hg_iload_n dL_law_210 rfl ?_
        refine hz_iconst dL_law_211 ?_
        refine hz_iadd dL_law_212 ?_
        refine hz_sld (j := i + 1) dL_law_213 (by omega) (by omega) (by omega) ?_
        refine hz_if_eq (tgt := 221) dL_law_214 (by decide) hr1 (fun c214 => ?_) (fun c214 => ?_)
        · refine hz_iconst dL_law_221 ?_
          refine hz_callVV dL_law_222 lm_L_30 lk_X9_setExclusion (k_setExclusion hR (by decide) (by decide)) rfl rfl m_d rfl (mkRoom rfl rfl) (Nat.le_of_ble_eq_true rfl) hkq hnq (fun M r hp => ?_)
          obtain ⟨rfl, hR, o1⟩ := hp
          have hC := hC.off o1 (by omega)
          first
          | exact hg_icmp_eq (tgt := 749) dL_law_225 (by decide) (fun _ => fin M _ hC hR) (fun h => absurd rfl h)
          | (exfalso; omega)
        · refine hz_iconst dL_law_217 ?_
          refine hg_goto (tgt := 222) dL_law_218 (by decide) ?_
          refine hz_callVV dL_law_222 lm_L_30 lk_X9_setExclusion (k_setExclusion hR (by decide) (by decide)) rfl rfl m_d rfl (mkRoom rfl rfl) (Nat.le_of_ble_eq_true rfl) hkq hnq (fun M r hp => ?_)
          obtain ⟨rfl, hR, o1⟩ := hp
          have hC := hC.off o1 (by omega)
          first
          | exact hg_icmp_eq (tgt := 749) dL_law_225 (by decide) (fun _ => fin M _ hC hR) (fun h => absurd rfl h)
          | (exfalso; omega)
      · refine hz_iconst dL_law_200 ?_
        refine hg_goto (tgt := 205) dL_law_201 (by decide) ?_
        refine hz_callVV dL_law_205 lm_L_26 lk_X8_setExclusion (c_setExclusion hC (by decide) (by decide)) rfl rfl m_c rfl (mkRoom rfl rfl) (Nat.le_of_ble_eq_true rfl) hkq hnq (fun M r hp => ?_)
        obtain ⟨rfl, hC, o1⟩ := hp
        have hR := hR.off o1 (by omega)
        have m_d := (o1 _ (by omega)).trans m_d
        refine hg_aload_n dL_law_208 rfl ?_
        refine hg_aload_n dL_law_209 rfl ?_
        refine hg_iload_n dL_law_210 rfl ?_
        refine hz_iconst dL_law_211 ?_
        refine hz_iadd dL_law_212 ?_
        refine hz_sld (j := i + 1) dL_law_213 (by omega) (by omega) (by omega) ?_
        refine hz_if_eq (tgt := 221) dL_law_214 (by decide) hr1 (fun c214 => ?_) (fun c214 => ?_)
        · refine hz_iconst dL_law_221 ?_
          refine hz_callVV dL_law_222 lm_L_30 lk_X9_setExclusion (k_setExclusion hR (by decide) (by decide)) rfl rfl m_d rfl (mkRoom rfl rfl) (Nat.le_of_ble_eq_true rfl) hkq hnq (fun M r hp => ?_)
          obtain ⟨rfl, hR, o1⟩ := hp
          have hC := hC.off o1 (by omega)
          first
          | exact hg_icmp_eq (tgt := 749) dL_law_225 (by decide) (fun _ => fin M _ hC hR) (fun h => absurd rfl h)
          | (exfalso; omega)
        · refine hz_iconst dL_law_217 ?_
          refine hg_goto (tgt := 222) dL_law_218 (by decide) ?_
          refine hz_callVV dL_law_222 lm_L_30 lk_X9_setExclusion (k_setExclusion hR (by decide) (by decide)) rfl rfl m_d rfl (mkRoom rfl rfl) (Nat.le_of_ble_eq_true rfl) hkq hnq (fun M r hp => ?_)
          obtain ⟨rfl, hR, o1⟩ := hp
          have hC := hC.off o1 (by omega)
          first
          | exact hg_icmp_eq (tgt := 749) dL_law_225 (by decide) (fun _ => fin M _ hC hR) (fun h => absurd rfl h)
          | (exfalso; omega)
    by_cases w2 : w = 2
    · refine hz_tswIn (j := 2) (tgt := 230) dL_law_42 (by omega) (by omega) (by decide) rfl (by decide) ?_
      refine hg_aload_n dL_law_230 rfl ?_
      refine hg_aload_n dL_law_231 rfl ?_
      refine hg_iload_n dL_law_232 rfl ?_
      refine hz_iconst dL_law_233 ?_
      refine hz_iadd dL_law_234 ?_
      refine hz_sld (j := i + 1) dL_law_235 (by omega) (by omega) (by omega) ?_
      refine hz_callVV dL_law_236 lm_L_31 lk_X8_setStep (c_setStep hC hr1) rfl rfl m_c rfl (mkRoom rfl rfl) (Nat.le_of_ble_eq_true rfl) hkq hnq (fun M r hp => ?_)
      obtain ⟨rfl, hC, o1⟩ := hp
      have hR := hR.off o1 (by omega)
      have m_d := (o1 _ (by omega)).trans m_d
      refine hg_aload_n dL_law_239 rfl ?_
      refine hg_aload_n dL_law_240 rfl ?_
      refine hg_iload_n dL_law_241 rfl ?_
      refine hz_iconst dL_law_242 ?_
      refine hz_iadd dL_law_243 ?_
      refine hz_sld (j := i + 1) dL_law_244 (by omega) (by omega) (by omega) ?_
      refine hz_callVV dL_law_245 lm_L_34 lk_X9_setStep (k_setStep hR hr1) rfl rfl m_d rfl (mkRoom rfl rfl) (Nat.le_of_ble_eq_true rfl) hkq hnq (fun M r hp => ?_)
      obtain ⟨rfl, hR, o1⟩ := hp
      have hC := hC.off o1 (by omega)
      first
      | exact hg_icmp_eq (tgt := 749) dL_law_248 (by decide) (fun _ => fin M _ hC hR) (fun h => absurd rfl h)
      | (exfalso; omega)
    by_cases w3 : w = 3
    · refine hz_tswIn (j := 3) (tgt := 253) dL_law_42 (by omega) (by omega) (by decide) rfl (by decide) ?_
      refine hg_aload_n dL_law_253 rfl ?_
      refine hg_aload_n dL_law_254 rfl ?_
      refine hg_iload_n dL_law_255 rfl ?_
      refine hz_iconst dL_law_256 ?_
      refine hz_iadd dL_law_257 ?_
      refine hz_sld (j := i + 1) dL_law_258 (by omega) (by omega) (by omega) ?_
      refine hz_callVV dL_law_259 lm_L_35 lk_X8_setLimit (c_setLimit hC hr1) rfl rfl m_c rfl (mkRoom rfl rfl) (Nat.le_of_ble_eq_true rfl) hkq hnq (fun M r hp => ?_)
      obtain ⟨rfl, hC, o1⟩ := hp
      have hR := hR.off o1 (by omega)
      have m_d := (o1 _ (by omega)).trans m_d
      refine hg_aload_n dL_law_262 rfl ?_
      refine hg_aload_n dL_law_263 rfl ?_
      refine hg_iload_n dL_law_264 rfl ?_
      refine hz_iconst dL_law_265 ?_
      refine hz_iadd dL_law_266 ?_
      refine hz_sld (j := i + 1) dL_law_267 (by omega) (by omega) (by omega) ?_
      refine hz_callVV dL_law_268 lm_L_38 lk_X9_setLimit (k_setLimit hR hr1) rfl rfl m_d rfl (mkRoom rfl rfl) (Nat.le_of_ble_eq_true rfl) hkq hnq (fun M r hp => ?_)
      obtain ⟨rfl, hR, o1⟩ := hp
      have hC := hC.off o1 (by omega)
      first
      | exact hg_icmp_eq (tgt := 749) dL_law_271 (by decide) (fun _ => fin M _ hC hR) (fun h => absurd rfl h)
      | (exfalso; omega)
    by_cases w4 : w = 4
    · refine hz_tswIn (j := 4) (tgt := 276) dL_law_42 (by omega) (by omega) (by decide) rfl (by decide) ?_
      refine hg_aload_n dL_law_276 rfl ?_
      refine hz_callVV dL_law_277 lm_L_39 lk_X8_forget (c_forget hC) rfl rfl m_c rfl (mkRoom rfl rfl) (Nat.le_of_ble_eq_true rfl) hkq hnq (fun M r hp => ?_)
      obtain ⟨rfl, hC, o1⟩ := hp
      have hR := hR.off o1 (by omega)
      have m_d := (o1 _ (by omega)).trans m_d
      refine hg_aload_n dL_law_280 rfl ?_
      refine hz_callVV dL_law_281 lm_L_43 lk_X9_forget (k_forget hR) rfl rfl m_d rfl (mkRoom rfl rfl) (Nat.le_of_ble_eq_true rfl) hkq hnq (fun M r hp => ?_)
      obtain ⟨rfl, hR, o1⟩ := hp
      have hC := hC.off o1 (by omega)
      first
      | exact hg_icmp_eq (tgt := 749) dL_law_284 (by decide) (fun _ => fin M _ hC hR) (fun h => absurd rfl h)
      | (exfalso; omega)
    by_cases w5 : w = 5
    · refine hz_tswIn (j := 5) (tgt := 289) dL_law_42 (by omega) (by omega) (by decide) rfl (by decide) ?_
      refine hg_aload_n dL_law_289 rfl ?_
      refine hz_callVV dL_law_290 lm_L_44 lk_X8_learn (c_learn hC) rfl rfl m_c rfl (mkRoom rfl rfl) (Nat.le_of_ble_eq_true rfl) hkq hnq (fun M r hp => ?_)
      obtain ⟨rfl, hC, o1⟩ := hp
      have hR := hR.off o1 (by omega)
      have m_d := (o1 _ (by omega)).trans m_d
      refine hg_aload_n dL_law_293 rfl ?_
      refine hz_callVV dL_law_294 lm_L_47 lk_X9_learn (k_learn hR) rfl rfl m_d rfl (mkRoom rfl rfl) (Nat.le_of_ble_eq_true rfl) hkq hnq (fun M r hp => ?_)
      obtain ⟨rfl, hR, o1⟩ := hp
      have hC := hC.off o1 (by omega)
      first
      | exact hg_icmp_eq (tgt := 749) dL_law_297 (by decide) (fun _ => fin M _ hC hR) (fun h => absurd rfl h)
      | (exfalso; omega)
    by_cases w6 : w = 6
    · refine hz_tswIn (j := 6) (tgt := 302) dL_law_42 (by omega) (by omega) (by decide) rfl (by decide) ?_
      refine hg_aload_n dL_law_302 rfl ?_
      refine hz_callVV dL_law_303 lm_L_48 lk_X8_contexts (c_contexts hC) rfl rfl m_c rfl (mkRoom rfl rfl) (Nat.le_of_ble_eq_true rfl) hkq hnq (fun M r hp => ?_)
      obtain ⟨rfl, hC, o1⟩ := hp
      have hR := hR.off o1 (by omega)
      have m_d := (o1 _ (by omega)).trans m_d
      refine hg_aload_n dL_law_306 rfl ?_
      refine hz_callVV dL_law_307 lm_L_51 lk_X9_contexts (k_contexts hR) rfl rfl m_d rfl (mkRoom rfl rfl) (Nat.le_of_ble_eq_true rfl) hkq hnq (fun M r hp => ?_)
      obtain ⟨rfl, hR, o1⟩ := hp
      have hC := hC.off o1 (by omega)
      first
      | exact hg_icmp_eq (tgt := 749) dL_law_310 (by decide) (fun _ => fin M _ hC hR) (fun h => absurd rfl h)
      | (exfalso; omega)
    by_cases w7 : w = 7
    · refine hz_tswIn (j := 7) (tgt := 315) dL_law_42 (by omega) (by omega) (by decide) rfl (by decide) ?_
      refine hg_aload_n dL_law_315 rfl ?_
      refine hg_aload_n dL_law_316 rfl ?_
      refine hg_iload_n dL_law_317 rfl ?_
      refine hz_iconst dL_law_318 ?_
      refine hz_iadd dL_law_319 ?_
      refine hz_sld (j := i + 1) dL_law_320 (by omega) (by omega) (by omega) ?_
      refine hg_aload_n dL_law_321 rfl ?_
      refine hg_iload_n dL_law_322 rfl ?_
      refine hz_iconst dL_law_323 ?_
      refine hz_iadd dL_law_324 ?_
      refine hz_sld (j := i + 2) dL_law_325 (by omega) (by omega) (by omega) ?_
      refine hz_callVV dL_law_326 lm_L_52 lk_X8_count (c_count hC hr1 hr2) rfl rfl m_c rfl (mkRoom rfl rfl) (Nat.le_of_ble_eq_true rfl) hkq hnq (fun M r hp => ?_)
      obtain ⟨rfl, hC, o1⟩ := hp
      have hR := hR.off o1 (by omega)
      have m_d := (o1 _ (by omega)).trans m_d
      refine hg_aload_n dL_law_329 rfl ?_
      refine hg_aload_n dL_law_330 rfl ?_
      refine hg_iload_n dL_law_331 rfl ?_
      refine hz_iconst dL_law_332 ?_
      refine hz_iadd dL_law_333 ?_
      refine hz_sld (j := i + 1) dL_law_334 (by omega) (by omega) (by omega) ?_
      refine hg_aload_n dL_law_335 rfl ?_
      refine hg_iload_n dL_law_336 rfl ?_
      refine hz_iconst dL_law_337 ?_
      refine hz_iadd dL_law_338 ?_
      refine hz_sld (j := i + 2) dL_law_339 (by omega) (by omega) (by omega) ?_
      refine hz_callVV dL_law_340 lm_L_56 lk_X9_count (k_count hR hr1 hr2) rfl rfl m_d rfl (mkRoom rfl rfl) (Nat.le_of_ble_eq_true rfl) hkq hnq (fun M r hp => ?_)
      obtain ⟨rfl, hR, o1⟩ := hp
      have hC := hC.off o1 (by omega)
      first
      | exact hg_icmp_eq (tgt := 749) dL_law_343 (by decide) (fun _ => fin M _ hC hR) (fun h => absurd rfl h)
      | (exfalso; omega)
    by_cases w8 : w = 8
    · refine hz_tswIn (j := 8) (tgt := 348) dL_law_42 (by omega) (by omega) (by decide) rfl (by decide) ?_
      refine hg_aload_n dL_law_348 rfl ?_
      refine hg_aload_n dL_law_349 rfl ?_
      refine hg_iload_n dL_law_350 rfl ?_
      refine hz_iconst dL_law_351 ?_
      refine hz_iadd dL_law_352 ?_
      refine hz_sld (j := i + 1) dL_law_353 (by omega) (by omega) (by omega) ?_
      refine hz_callVV dL_law_354 lm_L_57 lk_X8_weight (c_weight hC hr1) rfl rfl m_c rfl (mkRoom rfl rfl) (Nat.le_of_ble_eq_true rfl) hkq hnq (fun M r hp => ?_)
      obtain ⟨rfl, hC, o1⟩ := hp
      have hR := hR.off o1 (by omega)
      have m_d := (o1 _ (by omega)).trans m_d
      refine hg_aload_n dL_law_357 rfl ?_
      refine hg_aload_n dL_law_358 rfl ?_
      refine hg_iload_n dL_law_359 rfl ?_
      refine hz_iconst dL_law_360 ?_
      refine hz_iadd dL_law_361 ?_
      refine hz_sld (j := i + 1) dL_law_362 (by omega) (by omega) (by omega) ?_
      refine hz_callVV dL_law_363 lm_L_60 lk_X9_weight (k_weight hR hr1) rfl rfl m_d rfl (mkRoom rfl rfl) (Nat.le_of_ble_eq_true rfl) hkq hnq (fun M r hp => ?_)
      obtain ⟨rfl, hR, o1⟩ := hp
      have hC := hC.off o1 (by omega)
      first
      | exact hg_icmp_eq (tgt := 749) dL_law_366 (by decide) (fun _ => fin M _ hC hR) (fun h => absurd rfl h)
      | (exfalso; omega)
    by_cases w9 : w = 9
    · refine hz_tswIn (j := 9) (tgt := 371) dL_law_42 (by omega) (by omega) (by decide) rfl (by decide) ?_
      refine hg_aload_n dL_law_371 rfl ?_
      refine hg_aload_n dL_law_372 rfl ?_
      refine hg_iload_n dL_law_373 rfl ?_
      refine hz_iconst dL_law_374 ?_
      refine hz_iadd dL_law_375 ?_
      refine hz_sld (j := i + 1) dL_law_376 (by omega) (by omega) (by omega) ?_
      refine hz_callVV dL_law_377 lm_L_61 lk_X8_price (c_price hC hr1) rfl rfl m_c rfl (mkRoom rfl rfl) (Nat.le_of_ble_eq_true rfl) hkq hnq (fun M r hp => ?_)
      obtain ⟨rfl, hC, o1⟩ := hp
      have hR := hR.off o1 (by omega)
      have m_d := (o1 _ (by omega)).trans m_d
      refine hg_aload_n dL_law_380 rfl ?_
      refine hg_aload_n dL_law_381 rfl ?_
      refine hg_iload_n dL_law_382 rfl ?_
      refine hz_iconst dL_law_383 ?_
      refine hz_iadd dL_law_384 ?_
      refine hz_sld (j := i + 1) dL_law_385 (by omega) (by omega) (by omega) ?_
      refine hz_callVV dL_law_386 lm_L_64 lk_X9_price (k_price hR hr1) rfl rfl m_d rfl (mkRoom rfl rfl) (Nat.le_of_ble_eq_true rfl) hkq hnq (fun M r hp => ?_)
      obtain ⟨rfl, hR, o1⟩ := hp
      have hC := hC.off o1 (by omega)
      first
      | exact hg_icmp_eq (tgt := 749) dL_law_389 (by decide) (fun _ => fin M _ hC hR) (fun h => absurd rfl h)
      | (exfalso; omega)
    by_cases w10 : w = 10
    · refine hz_tswIn (j := 10) (tgt := 394) dL_law_42 (by omega) (by omega) (by decide) rfl (by decide) ?_
      refine hg_aload_n dL_law_394 rfl ?_
      refine hz_callVV dL_law_395 lm_L_65 lk_X8_guess (c_guess hC) rfl rfl m_c rfl (mkRoom rfl rfl) (Nat.le_of_ble_eq_true rfl) hkq hnq (fun M r hp => ?_)
      obtain ⟨rfl, hC, o1⟩ := hp
      have hR := hR.off o1 (by omega)
      have m_d := (o1 _ (by omega)).trans m_d
      refine hg_aload_n dL_law_398 rfl ?_
      refine hz_callVV dL_law_399 lm_L_68 lk_X9_guess (k_guess hR) rfl rfl m_d rfl (mkRoom rfl rfl) (Nat.le_of_ble_eq_true rfl) hkq hnq (fun M r hp => ?_)
      obtain ⟨rfl, hR, o1⟩ := hp
      have hC := hC.off o1 (by omega)
      first
      | exact hg_icmp_eq (tgt := 749) dL_law_402 (by decide) (fun _ => fin M _ hC hR) (fun h => absurd rfl h)
      | (exfalso; omega)
    by_cases w11 : w = 11
    · refine hz_tswIn (j := 11) (tgt := 407) dL_law_42 (by omega) (by omega) (by decide) rfl (by decide) ?_
      refine hg_aload_n dL_law_407 rfl ?_
      refine hg_aload_n dL_law_408 rfl ?_
      refine hg_iload_n dL_law_409 rfl ?_
      refine hz_iconst dL_law_410 ?_
      refine hz_iadd dL_law_411 ?_
      refine hz_sld (j := i + 1) dL_law_412 (by omega) (by omega) (by omega) ?_
      refine hz_callVV dL_law_413 lm_L_69 lk_X8_type (c_type hC hr1) rfl rfl m_c rfl (mkRoom rfl rfl) (Nat.le_of_ble_eq_true rfl) hkq hnq (fun M r hp => ?_)
      obtain ⟨rfl, hC, o1⟩ := hp
      have hR := hR.off o1 (by omega)
      have m_d := (o1 _ (by omega)).trans m_d
      refine hg_aload_n dL_law_416 rfl ?_
      refine hg_aload_n dL_law_417 rfl ?_
      refine hg_iload_n dL_law_418 rfl ?_
      refine hz_iconst dL_law_419 ?_
      refine hz_iadd dL_law_420 ?_
      refine hz_sld (j := i + 1) dL_law_421 (by omega) (by omega) (by omega) ?_
      refine hz_callVV dL_law_422 lm_L_72 lk_X9_type (k_type hR hr1) rfl rfl m_d rfl (mkRoom rfl rfl) (Nat.le_of_ble_eq_true rfl) hkq hnq (fun M r hp => ?_)
      obtain ⟨rfl, hR, o1⟩ := hp
      have hC := hC.off o1 (by omega)
      first
      | exact hg_icmp_eq (tgt := 749) dL_law_425 (by decide) (fun _ => fin M _ hC hR) (fun h => absurd rfl h)
      | (exfalso; omega)
    by_cases w12 : w = 12
    · refine hz_tswIn (j := 12) (tgt := 430) dL_law_42 (by omega) (by omega) (by decide) rfl (by decide) ?_
      refine hg_aload_n dL_law_430 rfl ?_
      refine hg_aload_n dL_law_431 rfl ?_
      refine hg_iload_n dL_law_432 rfl ?_
      refine hz_iconst dL_law_433 ?_
      refine hz_iadd dL_law_434 ?_
      refine hz_sld (j := i + 1) dL_law_435 (by omega) (by omega) (by omega) ?_
      refine hz_callVV dL_law_436 lm_L_73 lk_X8_remove (c_remove hC hr1) rfl rfl m_c rfl (mkRoom rfl rfl) (Nat.le_of_ble_eq_true rfl) hkq hnq (fun M r hp => ?_)
      obtain ⟨rfl, hC, o1⟩ := hp
      have hR := hR.off o1 (by omega)
      have m_d := (o1 _ (by omega)).trans m_d
      refine hg_aload_n dL_law_439 rfl ?_
      refine hg_aload_n dL_law_440 rfl ?_
      refine hg_iload_n dL_law_441 rfl ?_
      refine hz_iconst dL_law_442 ?_
      refine hz_iadd dL_law_443 ?_
      refine hz_sld (j := i + 1) dL_law_444 (by omega) (by omega) (by omega) ?_
      refine hz_callVV dL_law_445 lm_L_76 lk_X9_remove (k_remove hR hr1) rfl rfl m_d rfl (mkRoom rfl rfl) (Nat.le_of_ble_eq_true rfl) hkq hnq (fun M r hp => ?_)
      obtain ⟨rfl, hR, o1⟩ := hp
      have hC := hC.off o1 (by omega)
      first
      | exact hg_icmp_eq (tgt := 749) dL_law_448 (by decide) (fun _ => fin M _ hC hR) (fun h => absurd rfl h)
      | (exfalso; omega)
    by_cases w13 : w = 13
    · refine hz_tswIn (j := 13) (tgt := 453) dL_law_42 (by omega) (by omega) (by decide) rfl (by decide) ?_
      refine hg_aload_n dL_law_453 rfl ?_
      refine hz_callVV dL_law_454 lm_L_77 lk_X8_encode (c_encode hC) rfl rfl m_c rfl (mkRoom rfl rfl) (Nat.le_of_ble_eq_true rfl) hkq hnq (fun M r hp => ?_)
      obtain ⟨rfl, hC, o1⟩ := hp
      have hR := hR.off o1 (by omega)
      have m_d := (o1 _ (by omega)).trans m_d
      refine hg_aload_n dL_law_457 rfl ?_
      refine hz_callVV dL_law_458 lm_L_80 lk_X9_encode (k_encode hR) rfl rfl m_d rfl (mkRoom rfl rfl) (Nat.le_of_ble_eq_true rfl) hkq hnq (fun M r hp => ?_)
      obtain ⟨rfl, hR, o1⟩ := hp
      have hC := hC.off o1 (by omega)
      first
      | exact hg_icmp_eq (tgt := 749) dL_law_461 (by decide) (fun _ => fin M _ hC hR) (fun h => absurd rfl h)
      | (exfalso; omega)
    by_cases w14 : w = 14
    · refine hz_tswIn (j := 14) (tgt := 466) dL_law_42 (by omega) (by omega) (by decide) rfl (by decide) ?_
      refine hg_aload_n dL_law_466 rfl ?_
      refine hz_callVV dL_law_467 lm_L_81 lk_X8_bytes (c_bytes hC) rfl rfl m_c rfl (mkRoom rfl rfl) (Nat.le_of_ble_eq_true rfl) hkq hnq (fun M r hp => ?_)
      obtain ⟨rfl, hC, o1⟩ := hp
      have hR := hR.off o1 (by omega)
      have m_d := (o1 _ (by omega)).trans m_d
      refine hg_aload_n dL_law_470 rfl ?_
      refine hz_callVV dL_law_471 lm_L_84 lk_X9_bytes (k_bytes hR) rfl rfl m_d rfl (mkRoom rfl rfl) (Nat.le_of_ble_eq_true rfl) hkq hnq (fun M r hp => ?_)
      obtain ⟨rfl, hR, o1⟩ := hp
      have hC := hC.off o1 (by omega)
      first
      | exact hg_icmp_eq (tgt := 749) dL_law_474 (by decide) (fun _ => fin M _ hC hR) (fun h => absurd rfl h)
      | (exfalso; omega)
    by_cases w15 : w = 15
    · refine hz_tswIn (j := 15) (tgt := 479) dL_law_42 (by omega) (by omega) (by decide) rfl (by decide) ?_
      refine hg_aload_n dL_law_479 rfl ?_
      refine hg_aload_n dL_law_480 rfl ?_
      refine hg_iload_n dL_law_481 rfl ?_
      refine hz_iconst dL_law_482 ?_
      refine hz_iadd dL_law_483 ?_
      refine hz_sld (j := i + 1) dL_law_484 (by omega) (by omega) (by omega) ?_
      refine hz_callVV dL_law_485 lm_L_85 lk_X8_codeByte (c_codeByte hC hr1) rfl rfl m_c rfl (mkRoom rfl rfl) (Nat.le_of_ble_eq_true rfl) hkq hnq (fun M r hp => ?_)
      obtain ⟨rfl, hC, o1⟩ := hp
      have hR := hR.off o1 (by omega)
      have m_d := (o1 _ (by omega)).trans m_d
      refine hg_aload_n dL_law_488 rfl ?_
      refine hg_aload_n dL_law_489 rfl ?_
      refine hg_iload_n dL_law_490 rfl ?_
      refine hz_iconst dL_law_491 ?_
      refine hz_iadd dL_law_492 ?_
      refine hz_sld (j := i + 1) dL_law_493 (by omega) (by omega) (by omega) ?_
      refine hz_callVV dL_law_494 lm_L_88 lk_X9_codeByte (k_codeByte hR hr1) rfl rfl m_d rfl (mkRoom rfl rfl) (Nat.le_of_ble_eq_true rfl) hkq hnq (fun M r hp => ?_)
      obtain ⟨rfl, hR, o1⟩ := hp
      have hC := hC.off o1 (by omega)
      first
      | exact hg_icmp_eq (tgt := 749) dL_law_497 (by decide) (fun _ => fin M _ hC hR) (fun h => absurd rfl h)
      | (exfalso; omega)
    by_cases w16 : w = 16
    · refine hz_tswIn (j := 16) (tgt := 502) dL_law_42 (by omega) (by omega) (by decide) rfl (by decide) ?_
      refine hg_aload_n dL_law_502 rfl ?_
      refine hz_callVV dL_law_503 lm_L_89 lk_X8_longestCarry (c_longest hC) rfl rfl m_c rfl (mkRoom rfl rfl) (Nat.le_of_ble_eq_true rfl) hkq hnq (fun M r hp => ?_)
      obtain ⟨rfl, hC, o1⟩ := hp
      have hR := hR.off o1 (by omega)
      have m_d := (o1 _ (by omega)).trans m_d
      refine hg_aload_n dL_law_506 rfl ?_
      refine hz_callVV dL_law_507 lm_L_92 lk_X9_longestCarry (k_longestCarry hR) rfl rfl m_d rfl (mkRoom rfl rfl) (Nat.le_of_ble_eq_true rfl) hkq hnq (fun M r hp => ?_)
      obtain ⟨rfl, hR, o1⟩ := hp
      have hC := hC.off o1 (by omega)
      first
      | exact hg_icmp_eq (tgt := 749) dL_law_510 (by decide) (fun _ => fin M _ hC hR) (fun h => absurd rfl h)
      | (exfalso; omega)
    by_cases w17 : w = 17
    · refine hz_tswIn (j := 17) (tgt := 515) dL_law_42 (by omega) (by omega) (by decide) rfl (by decide) ?_
      refine hg_aload_n dL_law_515 rfl ?_
      refine hz_callVV dL_law_516 lm_L_93 lk_X8_decode (c_decode hC) rfl rfl m_c rfl (mkRoom rfl rfl) (Nat.le_of_ble_eq_true rfl) hkq hnq (fun M r hp => ?_)
      obtain ⟨rfl, hC, o1⟩ := hp
      have hR := hR.off o1 (by omega)
      have m_d := (o1 _ (by omega)).trans m_d
      refine hg_aload_n dL_law_519 rfl ?_
      refine hz_callVV dL_law_520 lm_L_96 lk_X9_decode (k_decode hR) rfl rfl m_d rfl (mkRoom rfl rfl) (Nat.le_of_ble_eq_true rfl) hkq hnq (fun M r hp => ?_)
      obtain ⟨rfl, hR, o1⟩ := hp
      have hC := hC.off o1 (by omega)
      first
      | exact hg_icmp_eq (tgt := 749) dL_law_523 (by decide) (fun _ => fin M _ hC hR) (fun h => absurd rfl h)
      | (exfalso; omega)
    by_cases w18 : w = 18
    · refine hz_tswIn (j := 18) (tgt := 528) dL_law_42 (by omega) (by omega) (by decide) rfl (by decide) ?_
      refine hg_aload_n dL_law_528 rfl ?_
      refine hg_aload_n dL_law_529 rfl ?_
      refine hg_iload_n dL_law_530 rfl ?_
      refine hz_iconst dL_law_531 ?_
      refine hz_iadd dL_law_532 ?_
      refine hz_sld (j := i + 1) dL_law_533 (by omega) (by omega) (by omega) ?_
      refine hz_callVV dL_law_534 lm_L_97 lk_X8_decoded (c_decoded hC hr1) rfl rfl m_c rfl (mkRoom rfl rfl) (Nat.le_of_ble_eq_true rfl) hkq hnq (fun M r hp => ?_)
      obtain ⟨rfl, hC, o1⟩ := hp
      have hR := hR.off o1 (by omega)
      have m_d := (o1 _ (by omega)).trans m_d
      refine hg_aload_n dL_law_537 rfl ?_
      refine hg_aload_n dL_law_538 rfl ?_
      refine hg_iload_n dL_law_539 rfl ?_
      refine hz_iconst dL_law_540 ?_
      refine hz_iadd dL_law_541 ?_
      refine hz_sld (j := i + 1) dL_law_542 (by omega) (by omega) (by omega) ?_
      refine hz_callVV dL_law_543 lm_L_100 lk_X9_decoded (k_decoded hR hr1) rfl rfl m_d rfl (mkRoom rfl rfl) (Nat.le_of_ble_eq_true rfl) hkq hnq (fun M r hp => ?_)
      obtain ⟨rfl, hR, o1⟩ := hp
      have hC := hC.off o1 (by omega)
      first
      | exact hg_icmp_eq (tgt := 749) dL_law_546 (by decide) (fun _ => fin M _ hC hR) (fun h => absurd rfl h)
      | (exfalso; omega)
    by_cases w19 : w = 19
    · refine hz_tswIn (j := 19) (tgt := 551) dL_law_42 (by omega) (by omega) (by decide) rfl (by decide) ?_
      refine hg_aload_n dL_law_551 rfl ?_
      refine hg_aload_n dL_law_552 rfl ?_
      refine hg_iload_n dL_law_553 rfl ?_
      refine hz_iconst dL_law_554 ?_
      refine hz_iadd dL_law_555 ?_
      refine hz_sld (j := i + 1) dL_law_556 (by omega) (by omega) (by omega) ?_
      refine hg_aload_n dL_law_557 rfl ?_
      refine hg_iload_n dL_law_558 rfl ?_
      refine hz_iconst dL_law_559 ?_
      refine hz_iadd dL_law_560 ?_
      refine hz_sld (j := i + 2) dL_law_561 (by omega) (by omega) (by omega) ?_
      refine hz_callVV dL_law_562 lm_L_101 lk_X8_flip (c_flip hC hr1 hr2) rfl rfl m_c rfl (mkRoom rfl rfl) (Nat.le_of_ble_eq_true rfl) hkq hnq (fun M r hp => ?_)
      obtain ⟨rfl, hC, o1⟩ := hp
      have hR := hR.off o1 (by omega)
      have m_d := (o1 _ (by omega)).trans m_d
      refine hg_aload_n dL_law_565 rfl ?_
      refine hg_aload_n dL_law_566 rfl ?_
      refine hg_iload_n dL_law_567 rfl ?_
      refine hz_iconst dL_law_568 ?_
      refine hz_iadd dL_law_569 ?_
      refine hz_sld (j := i + 1) dL_law_570 (by omega) (by omega) (by omega) ?_
      refine hg_aload_n dL_law_571 rfl ?_
      refine hg_iload_n dL_law_572 rfl ?_
      refine hz_iconst dL_law_573 ?_
      refine hz_iadd dL_law_574 ?_
      refine hz_sld (j := i + 2) dL_law_575 (by omega) (by omega) (by omega) ?_
      refine hz_callVV dL_law_576 lm_L_104 lk_X9_flip (k_flip hR hr1 hr2) rfl rfl m_d rfl (mkRoom rfl rfl) (Nat.le_of_ble_eq_true rfl) hkq hnq (fun M r hp => ?_)
      obtain ⟨rfl, hR, o1⟩ := hp
      have hC := hC.off o1 (by omega)
      first
      | exact hg_icmp_eq (tgt := 749) dL_law_579 (by decide) (fun _ => fin M _ hC hR) (fun h => absurd rfl h)
      | (exfalso; omega)
    by_cases w20 : w = 20
    · refine hz_tswIn (j := 20) (tgt := 584) dL_law_42 (by omega) (by omega) (by decide) rfl (by decide) ?_
      refine hg_aload_n dL_law_584 rfl ?_
      refine hg_aload_n dL_law_585 rfl ?_
      refine hg_iload_n dL_law_586 rfl ?_
      refine hz_iconst dL_law_587 ?_
      refine hz_iadd dL_law_588 ?_
      refine hz_sld (j := i + 1) dL_law_589 (by omega) (by omega) (by omega) ?_
      refine hz_callVV dL_law_590 lm_L_105 lk_X8_cut (c_cut hC hr1) rfl rfl m_c rfl (mkRoom rfl rfl) (Nat.le_of_ble_eq_true rfl) hkq hnq (fun M r hp => ?_)
      obtain ⟨rfl, hC, o1⟩ := hp
      have hR := hR.off o1 (by omega)
      have m_d := (o1 _ (by omega)).trans m_d
      refine hg_aload_n dL_law_593 rfl ?_
      refine hg_aload_n dL_law_594 rfl ?_
      refine hg_iload_n dL_law_595 rfl ?_
      refine hz_iconst dL_law_596 ?_
      refine hz_iadd dL_law_597 ?_
      refine hz_sld (j := i + 1) dL_law_598 (by omega) (by omega) (by omega) ?_
      refine hz_callVV dL_law_599 lm_L_108 lk_X9_cut (k_cut hR hr1) rfl rfl m_d rfl (mkRoom rfl rfl) (Nat.le_of_ble_eq_true rfl) hkq hnq (fun M r hp => ?_)
      obtain ⟨rfl, hR, o1⟩ := hp
      have hC := hC.off o1 (by omega)
      first
      | exact hg_icmp_eq (tgt := 749) dL_law_602 (by decide) (fun _ => fin M _ hC hR) (fun h => absurd rfl h)
      | (exfalso; omega)
    by_cases w21 : w = 21
    · refine hz_tswIn (j := 21) (tgt := 607) dL_law_42 (by omega) (by omega) (by decide) rfl (by decide) ?_
      refine hg_aload_n dL_law_607 rfl ?_
      refine hg_aload_n dL_law_608 rfl ?_
      refine hg_iload_n dL_law_609 rfl ?_
      refine hz_iconst dL_law_610 ?_
      refine hz_iadd dL_law_611 ?_
      refine hz_sld (j := i + 1) dL_law_612 (by omega) (by omega) (by omega) ?_
      refine hz_callVV dL_law_613 lm_L_109 lk_X8_append (c_append hC hr1) rfl rfl m_c rfl (mkRoom rfl rfl) (Nat.le_of_ble_eq_true rfl) hkq hnq (fun M r hp => ?_)
      obtain ⟨rfl, hC, o1⟩ := hp
      have hR := hR.off o1 (by omega)
      have m_d := (o1 _ (by omega)).trans m_d
      refine hg_aload_n dL_law_616 rfl ?_
      refine hg_aload_n dL_law_617 rfl ?_
      refine hg_iload_n dL_law_618 rfl ?_
      refine hz_iconst dL_law_619 ?_
      refine hz_iadd dL_law_620 ?_
      refine hz_sld (j := i + 1) dL_law_621 (by omega) (by omega) (by omega) ?_
      refine hz_callVV dL_law_622 lm_L_112 lk_X9_append (k_append hR hr1) rfl rfl m_d rfl (mkRoom rfl rfl) (Nat.le_of_ble_eq_true rfl) hkq hnq (fun M r hp => ?_)
      obtain ⟨rfl, hR, o1⟩ := hp
      have hC := hC.off o1 (by omega)
      first
      | exact hg_icmp_eq (tgt := 749) dL_law_625 (by decide) (fun _ => fin M _ hC hR) (fun h => absurd rfl h)
      | (exfalso; omega)
    by_cases w22 : w = 22
    · refine hz_tswIn (j := 22) (tgt := 630) dL_law_42 (by omega) (by omega) (by decide) rfl (by decide) ?_
      refine hg_aload_n dL_law_630 rfl ?_
      refine hz_callVV dL_law_631 lm_L_113 lk_X8_coded (c_coded hC) rfl rfl m_c rfl (mkRoom rfl rfl) (Nat.le_of_ble_eq_true rfl) hkq hnq (fun M r hp => ?_)
      obtain ⟨rfl, hC, o1⟩ := hp
      have hR := hR.off o1 (by omega)
      have m_d := (o1 _ (by omega)).trans m_d
      refine hg_aload_n dL_law_634 rfl ?_
      refine hz_callVV dL_law_635 lm_L_116 lk_X9_coded (k_coded hR) rfl rfl m_d rfl (mkRoom rfl rfl) (Nat.le_of_ble_eq_true rfl) hkq hnq (fun M r hp => ?_)
      obtain ⟨rfl, hR, o1⟩ := hp
      have hC := hC.off o1 (by omega)
      first
      | exact hg_icmp_eq (tgt := 749) dL_law_638 (by decide) (fun _ => fin M _ hC hR) (fun h => absurd rfl h)
      | (exfalso; omega)
    by_cases w23 : w = 23
    · refine hz_tswIn (j := 23) (tgt := 643) dL_law_42 (by omega) (by omega) (by decide) rfl (by decide) ?_
      refine hg_aload_n dL_law_643 rfl ?_
      refine hg_aload_n dL_law_644 rfl ?_
      refine hg_iload_n dL_law_645 rfl ?_
      refine hz_iconst dL_law_646 ?_
      refine hz_iadd dL_law_647 ?_
      refine hz_sld (j := i + 1) dL_law_648 (by omega) (by omega) (by omega) ?_
      refine hg_aload_n dL_law_649 rfl ?_
      refine hg_iload_n dL_law_650 rfl ?_
      refine hz_iconst dL_law_651 ?_
      refine hz_iadd dL_law_652 ?_
      refine hz_sld (j := i + 2) dL_law_653 (by omega) (by omega) (by omega) ?_
      refine hz_callVV dL_law_654 lm_L_117 lk_X8_account (c_account hC hr1 hr2) rfl rfl m_c rfl (mkRoom rfl rfl) (Nat.le_of_ble_eq_true rfl) hkq hnq (fun M r hp => ?_)
      obtain ⟨rfl, hC, o1⟩ := hp
      have hR := hR.off o1 (by omega)
      have m_d := (o1 _ (by omega)).trans m_d
      refine hg_aload_n dL_law_657 rfl ?_
      refine hg_aload_n dL_law_658 rfl ?_
      refine hg_iload_n dL_law_659 rfl ?_
      refine hz_iconst dL_law_660 ?_
      refine hz_iadd dL_law_661 ?_
      refine hz_sld (j := i + 1) dL_law_662 (by omega) (by omega) (by omega) ?_
      refine hg_aload_n dL_law_663 rfl ?_
      refine hg_iload_n dL_law_664 rfl ?_
      refine hz_iconst dL_law_665 ?_
      refine hz_iadd dL_law_666 ?_
      refine hz_sld (j := i + 2) dL_law_667 (by omega) (by omega) (by omega) ?_
      refine hz_callVV dL_law_668 lm_L_120 lk_X9_account (k_account hR hr1 hr2) rfl rfl m_d rfl (mkRoom rfl rfl) (Nat.le_of_ble_eq_true rfl) hkq hnq (fun M r hp => ?_)
      obtain ⟨rfl, hR, o1⟩ := hp
      have hC := hC.off o1 (by omega)
      first
      | exact hg_icmp_eq (tgt := 749) dL_law_671 (by decide) (fun _ => fin M _ hC hR) (fun h => absurd rfl h)
      | (exfalso; omega)
    by_cases w24 : w = 24
    · refine hz_tswIn (j := 24) (tgt := 676) dL_law_42 (by omega) (by omega) (by decide) rfl (by decide) ?_
      refine hg_aload_n dL_law_676 rfl ?_
      refine hz_callVV dL_law_677 lm_L_121 lk_X8_cost (c_cost hC) rfl rfl m_c rfl (mkRoom rfl rfl) (Nat.le_of_ble_eq_true rfl) hkq hnq (fun M r hp => ?_)
      obtain ⟨rfl, hC, o1⟩ := hp
      have hR := hR.off o1 (by omega)
      have m_d := (o1 _ (by omega)).trans m_d
      refine hg_aload_n dL_law_680 rfl ?_
      refine hz_callVV dL_law_681 lm_L_124 lk_X9_cost (k_cost hR) rfl rfl m_d rfl (mkRoom rfl rfl) (Nat.le_of_ble_eq_true rfl) hkq hnq (fun M r hp => ?_)
      obtain ⟨rfl, hR, o1⟩ := hp
      have hC := hC.off o1 (by omega)
      first
      | exact hg_icmp_eq (tgt := 749) dL_law_684 (by decide) (fun _ => fin M _ hC hR) (fun h => absurd rfl h)
      | (exfalso; omega)
    by_cases w25 : w = 25
    · refine hz_tswIn (j := 25) (tgt := 689) dL_law_42 (by omega) (by omega) (by decide) rfl (by decide) ?_
      refine hg_aload_n dL_law_689 rfl ?_
      refine hg_aload_n dL_law_690 rfl ?_
      refine hg_iload_n dL_law_691 rfl ?_
      refine hz_iconst dL_law_692 ?_
      refine hz_iadd dL_law_693 ?_
      refine hz_sld (j := i + 1) dL_law_694 (by omega) (by omega) (by omega) ?_
      refine hg_aload_n dL_law_695 rfl ?_
      refine hg_iload_n dL_law_696 rfl ?_
      refine hz_iconst dL_law_697 ?_
      refine hz_iadd dL_law_698 ?_
      refine hz_sld (j := i + 2) dL_law_699 (by omega) (by omega) (by omega) ?_
      refine hz_callVV dL_law_700 lm_L_125 lk_X8_lg (c_lg hC hr1 hr2) rfl rfl m_c rfl (mkRoom rfl rfl) (Nat.le_of_ble_eq_true rfl) hkq hnq (fun M r hp => ?_)
      obtain ⟨rfl, hC, o1⟩ := hp
      have hR := hR.off o1 (by omega)
      have m_d := (o1 _ (by omega)).trans m_d
      refine hg_aload_n dL_law_703 rfl ?_
      refine hg_aload_n dL_law_704 rfl ?_
      refine hg_iload_n dL_law_705 rfl ?_
      refine hz_iconst dL_law_706 ?_
      refine hz_iadd dL_law_707 ?_
      refine hz_sld (j := i + 1) dL_law_708 (by omega) (by omega) (by omega) ?_
      refine hg_aload_n dL_law_709 rfl ?_
      refine hg_iload_n dL_law_710 rfl ?_
      refine hz_iconst dL_law_711 ?_
      refine hz_iadd dL_law_712 ?_
      refine hz_sld (j := i + 2) dL_law_713 (by omega) (by omega) (by omega) ?_
      refine hz_callVV dL_law_714 lm_L_128 lk_X9_lg (k_lg hR hr1 hr2) rfl rfl m_d rfl (mkRoom rfl rfl) (Nat.le_of_ble_eq_true rfl) hkq hnq (fun M r hp => ?_)
      obtain ⟨rfl, hR, o1⟩ := hp
      have hC := hC.off o1 (by omega)
      first
      | exact hg_icmp_eq (tgt := 749) dL_law_717 (by decide) (fun _ => fin M _ hC hR) (fun h => absurd rfl h)
      | (exfalso; omega)
    by_cases w26 : w = 26
    · refine hz_tswIn (j := 26) (tgt := 722) dL_law_42 (by omega) (by omega) (by decide) rfl (by decide) ?_
      refine hg_aload_n dL_law_722 rfl ?_
      refine hz_callVV dL_law_723 lm_L_129 lk_X8_undo (c_undo hC) rfl rfl m_c rfl (mkRoom rfl rfl) (Nat.le_of_ble_eq_true rfl) hkq hnq (fun M r hp => ?_)
      obtain ⟨rfl, hC, o1⟩ := hp
      have hR := hR.off o1 (by omega)
      have m_d := (o1 _ (by omega)).trans m_d
      refine hg_aload_n dL_law_726 rfl ?_
      refine hz_callVV dL_law_727 lm_L_132 lk_X9_undo (k_undo hR) rfl rfl m_d rfl (mkRoom rfl rfl) (Nat.le_of_ble_eq_true rfl) hkq hnq (fun M r hp => ?_)
      obtain ⟨rfl, hR, o1⟩ := hp
      have hC := hC.off o1 (by omega)
      first
      | exact hg_icmp_eq (tgt := 749) dL_law_730 (by decide) (fun _ => fin M _ hC hR) (fun h => absurd rfl h)
      | (exfalso; omega)
    by_cases w27 : w = 27
    · refine hz_tswIn (j := 27) (tgt := 735) dL_law_42 (by omega) (by omega) (by decide) rfl (by decide) ?_
      refine hg_aload_n dL_law_735 rfl ?_
      refine hz_callVV dL_law_736 lm_L_133 lk_X8_fingerprint (c_fingerprint hC) rfl rfl m_c rfl (mkRoom rfl rfl) (Nat.le_of_ble_eq_true rfl) hkq hnq (fun M r hp => ?_)
      obtain ⟨rfl, hC, o1⟩ := hp
      have hR := hR.off o1 (by omega)
      have m_d := (o1 _ (by omega)).trans m_d
      refine hg_aload_n dL_law_739 rfl ?_
      refine hz_callVV dL_law_740 lm_L_137 lk_X9_fingerprint (k_fingerprint hR) rfl rfl m_d rfl (mkRoom rfl rfl) (Nat.le_of_ble_eq_true rfl) hkq hnq (fun M r hp => ?_)
      obtain ⟨rfl, hR, o1⟩ := hp
      have hC := hC.off o1 (by omega)
      refine hg_lcmp dL_law_743 ?_
      refine GS.top (v' := .int 0) (by rw [cmp_self]) ?_
      refine hg_if_eq (tgt := 749) dL_law_744 (by decide) (fun _ => ?_) (fun h => absurd rfl h)
      exact fin M _ hC hR
    refine hz_tswOut (tgt := 749) dL_law_42 (by omega) (by omega) (by decide) ?_
    exact fin M k hC hR
