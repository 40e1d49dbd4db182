/-! the law: its loop, its end -/
theorem x32_rng (x : Int32) : -2147483648 ≤ x.toInt ∧ x.toInt < 2147483648 := iZ_rng x
theorem shr_e {q : Int} (hq : -2147483648 ≤ q ∧ q < 2147483648) (s : Nat) (hs : s < 32) : Value.int (iZ q >>> (iZ (s : Int) &&& 31)) = vI (q / 2 ^ s) := by rw [iZ_shr hq hs]
/-- a number of the script, or one for its place -/
def cel (xS : Nat → Int32) (LS j : Nat) : Int := if j < LS then (xS j).toInt else wr (763049417 * ((j : Int) + 3))
theorem cel_rng (xS : Nat → Int32) (LS j : Nat) : -2147483648 ≤ cel xS LS j ∧ cel xS LS j < 2147483648 := by
  unfold cel
  split
  · exact x32_rng _
  · exact wr_rng _
set_option maxHeartbeats 1000000 in
theorem x_cell {bS LS : Nat} {xS : Nat → Int32} (hL : LS ≤ 260) {M : pM} {z j : Nat} (hj : j < 1000) {v : Int} (hv : cel xS LS j = v) : CX bS LS xS I_L_cell yL_cell [.ref bS, vI (j : Int)] M z (vI v) := by
  subst hv
  refine CX.intro (pl := [some (.ref bS), some (vI (j : Int))]) pn_L rfl (fun h => absurd h (by decide)) rfl (Nat.le_of_ble_eq_true rfl) rfl ?_
  refine hg_iload_n dL_cell_0 rfl ?_
  refine hg_aload_n dL_cell_1 rfl ?_
  refine hz_slen dL_cell_2 ?_
  refine hz_icmp_ge (tgt := 12) dL_cell_3 (by decide) (by omega) (by omega) (fun c3 => ?_) (fun c3 => ?_)
  · refine hz_ldc (763049417) dL_cell_12 kc_L_7 rfl ?_
    refine hg_iload_n dL_cell_14 rfl ?_
    refine hz_iconst dL_cell_15 ?_
    refine hz_iadd dL_cell_16 ?_
    refine hz_imul dL_cell_17 ?_
    refine GS.top (v' := vI (cel xS LS j)) (by unfold cel; rw [if_neg (by omega)]; exact congrArg Value.int (iZ_wr _)) ?_
    exact hg_ireturn dL_cell_18 rfl (Nat.le_of_ble_eq_true rfl) (Nat.le_of_ble_eq_true rfl) ⟨rfl, rfl, rfl⟩
  · refine hg_aload_n dL_cell_6 rfl ?_
    refine hg_iload_n dL_cell_7 rfl ?_
    refine hz_sld (j := j) dL_cell_8 (by omega) (by omega) (by omega) ?_
    refine hg_goto (tgt := 18) dL_cell_9 (by decide) ?_
    exact hg_ireturn dL_cell_18 rfl (Nat.le_of_ble_eq_true rfl) (Nat.le_of_ble_eq_true rfl) ⟨rfl, rfl, by unfold cel; rw [if_pos (by omega)]⟩
theorem st_e {k : kk} {a : Int} (h : 1 ≤ a ∧ a ≤ 10) : oSetStep a k = (sS k.1, pushed k (sO k.1, sX k.1, a, sL k.1, sT k.1, sC k.1, sA k.1, sG k.1, sR k.1)) := by unfold oSetStep; rw [if_pos h]
theorem li_e {k : kk} {a : Int} (h : 20 ≤ a ∧ a ≤ 1000) : oSetLimit a k = (sL k.1, pushed k (sO k.1, sX k.1, sS k.1, a, sT k.1, sC k.1, sA k.1, sG k.1, sR k.1)) := by unfold oSetLimit; rw [if_pos h]
theorem so_e {k : kk} {a : Int} (h : 0 ≤ a ∧ a ≤ 3) : oSetOrder a k = (sO k.1, pushed k (a, sX k.1, sS k.1, sL k.1, [], sC k.1, sA k.1, sG k.1, sR k.1)) := by unfold oSetOrder; rw [if_pos h]
theorem rm_e {k : kk} (h : k.2.2.length ≤ 200) : oRemove 999 k = (0, (k.1, k.2.1, [])) := by
  unfold oRemove
  rw [if_neg (by omega), show Int.toNat 999 = 999 from rfl, show k.2.2.length - 999 = 0 by omega, List.take_zero]
  rfl
def lrnd (k : kk) : kk := pushed k (sO k.1, sX k.1, sS k.1, sL k.1, lrn (sO k.1) (sS k.1) (sL k.1) k.2.2 (sT k.1) (k.2.2.length + 1), sC k.1, sA k.1, sG k.1, sR k.1)
theorem le_e {k : kk} : oLearn k = (((sT (lrnd k).1).length : Int), lrnd k) := rfl
theorem lrnd_len (k : kk) : 1 ≤ (sT (lrnd k).1).length := by
  show 1 ≤ (lrn (sO k.1) (sS k.1) (sL k.1) k.2.2 (sT k.1) (k.2.2.length + 1)).length
  rw [lrn]
  exact incr_len _ _ _ _ _ _
theorem lrnd_u {k : kk} : oUndo (lrnd k) = ((((hpush k.2.1 k.1).length - 1 : Nat) : Int), (k.1, (hpush k.2.1 k.1).dropLast, k.2.2)) := und_e
theorem d0_rng {k : kk} {q l : Int} {n : Nat} (hl : 1 ≤ l ∧ l ≤ 8) (h : sR k.1 = txt q l n) : -9 ≤ (oDecoded 0 k).1 ∧ (oDecoded 0 k).1 ≤ 104 := by
  by_cases e : n = 0
  · have : (oDecoded 0 k).1 = -9 := by
      unfold oDecoded
      rw [h, txt_len, e, if_neg (by omega), if_neg (by omega)]
    omega
  · have h1 := dc_e (k := k) (j := 0) h (by omega)
    have h2 := chz_rng (q := q) hl 0
    have h3 : (oDecoded 0 k).1 = chz q l 0 := congrArg Prod.fst h1
    omega
set_option maxHeartbeats 2000000 in
theorem law_end {bS LS : Nat} {xS : Nat → Int32} {q ord : Int} {c : Nat} (hq : -2147483648 ≤ q ∧ q < 2147483648) {kq nq : Nat} (hkq : kq ≤ 600000) (hnq : nq ≤ 7302250) {M : pM} {zz : Nat} {k : kk} (hC : CC M c k) (hO : sO k.1 = ord) : ∀ K4 K5 K6 K7 : Option Value, GS bS LS xS I_L_law 600000 7302250 (fun M' z' r => r = some (vI 1)) kq nq 322 [some (.ref bS), some (vI q), some (vI ord), some (.ref c), K4, K5, K6, K7] [] M zz := by
  intro K4 K5 K6 K7
  have m_c : M c = _ := hC.1
  have hl := hC.facts.1.2.1.1
  have hup := upz_rng (a := q / 2 ^ 16) (m := 4) (by omega)
  refine hg_aload_n dL_law_322 rfl ?_
  refine hz_callVV dL_law_323 lm_L_84 lk_X8_contexts ((c_contexts hC).as (k' := k) (v := ((sT k.1).length : Int)) (rfl)) rfl rfl m_c rfl (mkRoom rfl rfl) (Nat.le_of_ble_eq_true rfl) hkq hnq (fun M r hp => ?_)
  obtain ⟨rfl, hC, o1⟩ := hp
  have m_c : M c = _ := hC.1
  refine hg_istore dL_law_326 (Nat.le_of_ble_eq_true rfl) ?_
  refine hg_aload_n dL_law_328 rfl ?_
  refine hz_callVV dL_law_329 lm_L_135 lk_X8_forget ((c_forget hC).as (k' := pushed k (sO k.1, sX k.1, sS k.1, sL k.1, [], sC k.1, sA k.1, sG k.1, sR k.1)) (v := ((sT k.1).length : Int)) (rfl)) rfl rfl m_c rfl (mkRoom rfl rfl) (Nat.le_of_ble_eq_true rfl) hkq hnq (fun M r hp => ?_)
  obtain ⟨rfl, hC, o1⟩ := hp
  have m_c : M c = _ := hC.1
  refine hg_iload dL_law_332 rfl ?_
  refine hg_icmp_ne (tgt := 387) dL_law_334 (by decide) (fun h => absurd rfl h) (fun _ => ?_)
  refine hg_aload_n dL_law_337 rfl ?_
  refine hz_callVV dL_law_338 lm_L_84 lk_X8_contexts ((c_contexts hC).as (k' := pushed k (sO k.1, sX k.1, sS k.1, sL k.1, [], sC k.1, sA k.1, sG k.1, sR k.1)) (v := 0) (rfl)) rfl rfl m_c rfl (mkRoom rfl rfl) (Nat.le_of_ble_eq_true rfl) hkq hnq (fun M r hp => ?_)
  obtain ⟨rfl, hC, o1⟩ := hp
  have m_c : M c = _ := hC.1
  have hh := hC.facts.2.2.2.2.2.2
  have hh : (hpush k.2.1 k.1).length ≤ 4 := hh
  refine hz_if_ne (tgt := 387) dL_law_341 (by decide) (by omega) (fun c341 => absurd c341 (by omega)) (fun c341 => ?_)
  refine hg_aload_n dL_law_344 rfl ?_
  refine hz_callVV dL_law_345 lm_L_87 lk_X8_undo ((c_undo hC).as (k' := (k.1, (hpush k.2.1 k.1).dropLast, k.2.2)) (v := (((hpush k.2.1 k.1).length - 1 : Nat) : Int)) (und_e)) rfl rfl m_c rfl (mkRoom rfl rfl) (Nat.le_of_ble_eq_true rfl) hkq hnq (fun M r hp => ?_)
  obtain ⟨rfl, hC, o1⟩ := hp
  have m_c : M c = _ := hC.1
  refine hz_if_lt (tgt := 387) dL_law_348 (by decide) (by omega) (fun c348 => absurd c348 (by omega)) (fun c348 => ?_)
  refine hg_aload_n dL_law_351 rfl ?_
  refine hz_callVV dL_law_352 lm_L_84 lk_X8_contexts ((c_contexts hC).as (k' := (k.1, (hpush k.2.1 k.1).dropLast, k.2.2)) (v := ((sT k.1).length : Int)) (rfl)) rfl rfl m_c rfl (mkRoom rfl rfl) (Nat.le_of_ble_eq_true rfl) hkq hnq (fun M r hp => ?_)
  obtain ⟨rfl, hC, o1⟩ := hp
  have m_c : M c = _ := hC.1
  refine hg_iload dL_law_355 rfl ?_
  refine hg_icmp_ne (tgt := 387) dL_law_357 (by decide) (fun h => absurd rfl h) (fun _ => ?_)
  refine hg_aload_n dL_law_360 rfl ?_
  refine hg_iload_n dL_law_361 rfl ?_
  refine hz_bipush dL_law_362 (by decide +kernel) ?_
  refine hg_ishr dL_law_364 ?_
  refine GS.top (v' := vI (q / 2 ^ 16)) (shr_e hq 16 (by omega)) ?_
  refine hz_iconst dL_law_365 ?_
  refine hz_callSR dL_law_366 lm_L_70 lk_L_up (x_up (div_rng hq _) (by omega)) rfl rfl (mkRoom rfl rfl) (Nat.le_of_ble_eq_true rfl) hkq hnq ?_
  refine hz_callVV dL_law_369 lm_L_15 lk_X8_setOrder ((c_setOrder hC (by omega)).as (k' := pushed (k.1, (hpush k.2.1 k.1).dropLast, k.2.2) (upz (q / 2 ^ 16) 4, sX k.1, sS k.1, sL k.1, [], sC k.1, sA k.1, sG k.1, sR k.1)) (v := ord) (by rw [so_e (by omega)]; exact congrArg (fun y => (y, _)) hO)) rfl rfl m_c rfl (mkRoom rfl rfl) (Nat.le_of_ble_eq_true rfl) hkq hnq (fun M r hp => ?_)
  obtain ⟨rfl, hC, o1⟩ := hp
  have m_c : M c = _ := hC.1
  refine hg_iload_n dL_law_372 rfl ?_
  refine hg_icmp_ne (tgt := 387) dL_law_373 (by decide) (fun h => absurd rfl h) (fun _ => ?_)
  refine hg_aload_n dL_law_376 rfl ?_
  refine hz_callVV dL_law_377 lm_L_84 lk_X8_contexts ((c_contexts hC).as (k' := _) (v := 0) (rfl)) rfl rfl m_c rfl (mkRoom rfl rfl) (Nat.le_of_ble_eq_true rfl) hkq hnq (fun M r hp => ?_)
  obtain ⟨rfl, hC, o1⟩ := hp
  have m_c : M c = _ := hC.1
  refine hz_if_ne (tgt := 387) dL_law_380 (by decide) (by omega) (fun c380 => absurd c380 (by omega)) (fun c380 => ?_)
  refine hz_iconst dL_law_383 ?_
  refine hg_goto (tgt := 388) dL_law_384 (by decide) ?_
  exact hg_zreturn dL_law_388 rfl (by first | rfl | decide) hkq hnq rfl
set_option maxHeartbeats 4000000 in
theorem law_loop {bS LS : Nat} {xS : Nat → Int32} (hL : LS ≤ 260) {q ord : Int} {c : Nat} (hq : -2147483648 ≤ q ∧ q < 2147483648) (hor : 0 ≤ ord ∧ ord ≤ 3) : ∀ (u j : Nat) (M : pM) (k : kk) (kq nq zz : Nat), j + u = 4 → kq + u ≤ 600000 → nq + 64 * u ≤ 7302250 → c + 131 ≤ zz → CC M c k → sO k.1 = ord → ∀ K5 K6 K7 : Option Value, GS bS LS xS I_L_law 600000 7302250 (fun M' z' r => r = some (vI 1)) kq nq 125 [some (.ref bS), some (vI q), some (vI ord), some (.ref c), some (vI (j : Int)), K5, K6, K7] [] M zz := by
  intro u
  induction u with
  | zero =>
    intro j M k kq nq zz hj hkq hnq hz hC hO K5 K6 K7
    have hkq : kq ≤ 600000 := by omega
    have hnq : nq ≤ 7302250 := by omega
    refine hg_iload dL_law_125 rfl ?_
    refine hz_iconst dL_law_127 ?_
    refine hz_icmp_ge (tgt := 322) dL_law_128 (by decide) (by omega) (by omega) (fun c128 => ?_) (fun c128 => absurd c128 (by omega))
    exact law_end hq hkq hnq hC hO _ _ _ _
  | succ u ih =>
    intro j M k kq nq zz hj hkq0 hnq0 hz hC hO K5 K6 K7
    have hkq : kq ≤ 600000 := by omega
    have hnq : nq ≤ 7302250 := by omega
    have m_c : M c = _ := hC.1
    have hk200 := hC.facts.2.2.2.2.1
    obtain ⟨p, hpe⟩ : ∃ p, cel xS LS (1 + j) = p := ⟨_, rfl⟩
    have hp := cel_rng xS LS (1 + j)
    rw [hpe] at hp
    obtain ⟨p5, hp5e⟩ : ∃ p, cel xS LS (5 + j) = p := ⟨_, rfl⟩
    have hp5 := cel_rng xS LS (5 + j)
    rw [hp5e] at hp5
    obtain ⟨p9, hp9e⟩ : ∃ p, cel xS LS (9 + j) = p := ⟨_, rfl⟩
    have hp9 := cel_rng xS LS (9 + j)
    rw [hp9e] at hp9
    obtain ⟨l0, hl0⟩ : ∃ l0, upz (p / 2 ^ 24) 8 = l0 := ⟨_, rfl⟩
    have hlr := upz_rng (a := p / 2 ^ 24) (m := 8) (by omega)
    rw [hl0] at hlr
    have hnr := upz_rng (a := p / 2 ^ 27) (m := 30) (by omega)
    obtain ⟨n, hn⟩ : ∃ n : Nat, upz (p / 2 ^ 27) 30 = (n : Int) := ⟨(upz (p / 2 ^ 27) 30).toNat, by omega⟩
    rw [hn] at hnr
    have b276 : ∀ (M1 : pM) (k1 : kk) (kq1 nq1 zz1 : Nat), kq1 + u ≤ 600000 → nq1 + 64 * u ≤ 7302250 → c + 131 ≤ zz1 → CC M1 c k1 → sO k1.1 = ord → GS bS LS xS I_L_law 600000 7302250 (fun M' z' r => r = some (vI 1)) kq1 nq1 276 [some (.ref bS), some (vI q), some (vI ord), some (.ref c), some (vI (j : Int)), some (vI p), some (vI (1 + l0)), some (vI (n : Int))] [] M1 zz1 := by
      intro M k1 kq nq zz hkq0 hnq0 hz hC hO
      have hkq : kq ≤ 600000 := by omega
      have hnq : nq ≤ 7302250 := by omega
      have m_c : M c = _ := hC.1
      refine hg_aload_n dL_law_276 rfl ?_
      refine hg_aload_n dL_law_277 rfl ?_
      refine hz_iconst dL_law_278 ?_
      refine hg_iload dL_law_279 rfl ?_
      refine hz_iadd dL_law_281 ?_
      refine GS.top (v' := vI ((5 + j : Nat) : Int)) (by rw [show (5 : Int) + (j : Int) = ((5 + j : Nat) : Int) by omega]) ?_
      refine hz_callX dL_law_282 lm_L_96 lk_L_cell (x_cell (j := 5 + j) hL (by omega) hp5e) rfl rfl (mkRoom rfl rfl) (Nat.le_of_ble_eq_true rfl) hkq hnq ?_
      refine hz_callSV dL_law_285 lm_L_129 lk_L_prices (x_prices hC hp5) rfl rfl (mkRoom rfl rfl) (Nat.le_of_ble_eq_true rfl) hkq hnq (fun M r hp => ?_)
      obtain ⟨rfl, hC, o1⟩ := hp
      have m_c : M c = _ := hC.1
      refine hz_if_eq (tgt := 314) dL_law_288 (by decide) (by omega) (fun c288 => absurd c288 (by omega)) (fun c288 => ?_)
      refine hg_aload_n dL_law_291 rfl ?_
      refine hg_aload_n dL_law_292 rfl ?_
      refine hz_bipush dL_law_293 (by decide +kernel) ?_
      refine hg_iload dL_law_295 rfl ?_
      refine hz_iadd dL_law_297 ?_
      refine GS.top (v' := vI ((9 + j : Nat) : Int)) (by rw [show (9 : Int) + (j : Int) = ((9 + j : Nat) : Int) by omega]) ?_
      refine hz_callX dL_law_298 lm_L_96 lk_L_cell (x_cell (j := 9 + j) hL (by omega) hp9e) rfl rfl (mkRoom rfl rfl) (Nat.le_of_ble_eq_true rfl) hkq hnq ?_
      refine hz_callSV dL_law_301 lm_L_132 lk_L_damages (x_damages hC hp9) rfl rfl (mkRoom rfl rfl) (Nat.le_of_ble_eq_true rfl) hkq hnq (fun M r hp => ?_)
      obtain ⟨rfl, ⟨k3, hC, e1, e2⟩, o1⟩ := hp
      have m_c : M c = _ := hC.1
      refine hz_if_eq (tgt := 314) dL_law_304 (by decide) (by omega) (fun c304 => absurd c304 (by omega)) (fun c304 => ?_)
      refine hg_aload_n dL_law_307 rfl ?_
      refine hz_callSV dL_law_308 lm_L_103 lk_L_fails (x_fails hC) rfl rfl (mkRoom rfl rfl) (Nat.le_of_ble_eq_true rfl) hkq hnq (fun M r hp => ?_)
      obtain ⟨rfl, hC, o1⟩ := hp
      have m_c : M c = _ := hC.1
      refine hz_if_ne (tgt := 316) dL_law_311 (by decide) (by omega) (fun c311 => ?_) (fun c311 => absurd c311 (by omega))
      refine hz_iinc dL_law_316 rfl (Nat.le_of_ble_eq_true rfl) ?_
      refine hg_goto (tgt := 125) dL_law_319 (by decide) ?_
      exact ih (j + 1) M k3 kq nq zz (by omega) (by omega) (by omega) hz hC (e1.trans hO) _ _ _
    have b226 : ∀ (M1 : pM) (k1 : kk), CC M1 c k1 → sO k1.1 = ord → k1.2.2 = txt p (1 + l0) n → GS bS LS xS I_L_law 600000 7302250 (fun M' z' r => r = some (vI 1)) kq nq 226 [some (.ref bS), some (vI q), some (vI ord), some (.ref c), some (vI (j : Int)), some (vI p), some (vI (1 + l0)), some (vI (n : Int))] [] M1 zz := by
      intro M k1 hC hO ht
      have m_c : M c = _ := hC.1
      have hG := hC.facts.1
      have hx := hC.facts.2.2.2.2.2.1
      have hlen : k1.2.2.length = n := by rw [ht, txt_len]
      refine hg_aload_n dL_law_226 rfl ?_
      refine hg_iload dL_law_227 rfl ?_
      refine hz_callSV dL_law_229 lm_L_118 lk_L_codes (x_codes hC hlen (by omega)) rfl rfl (mkRoom rfl rfl) (Nat.le_of_ble_eq_true rfl) hkq hnq (fun M r hp => ?_)
      obtain ⟨rfl, hC, o1⟩ := hp
      have m_c : M c = _ := hC.1
      refine hz_if_eq (tgt := 314) dL_law_232 (by decide) (by omega) (fun c232 => absurd c232 (by omega)) (fun c232 => ?_)
      refine hg_aload_n dL_law_235 rfl ?_
      refine hg_iload dL_law_236 rfl ?_
      refine hg_callS dL_law_238 lm_L_122 lk_L_decodes (x_decodes hC hG hx hlen (by omega) hz) rfl rfl (mkRoom rfl rfl) (Nat.le_of_ble_eq_true rfl) (by omega) (by omega) (fun M zq r hp => ?_)
      obtain ⟨rfl, rfl, k2, hC, e1, e2, e3⟩ := hp
      have m_c : M c = _ := hC.1
      have hkq : kq + 1 ≤ 600000 := by omega
      have hnq : nq + 64 ≤ 7302250 := by omega
      have hc2 := hC.facts.2.1
      rw [ht] at e3
      refine hz_if_eq (tgt := 314) dL_law_241 (by decide) (by omega) (fun c241 => absurd c241 (by omega)) (fun c241 => ?_)
      refine hg_aload_n dL_law_244 rfl ?_
      refine hz_callVV dL_law_245 lm_L_44 lk_X8_bytes ((c_bytes hC).as (k' := k2) (v := ((sC k2.1).length : Int)) (rfl)) rfl rfl m_c rfl (mkRoom rfl rfl) (Nat.le_of_ble_eq_true rfl) hkq hnq (fun M r hp => ?_)
      obtain ⟨rfl, hC, o1⟩ := hp
      have m_c : M c = _ := hC.1
      refine hz_bipush dL_law_248 (by decide +kernel) ?_
      refine hz_icmp_gt (tgt := 276) dL_law_250 (by decide) (by omega) (by omega) (fun c250 => ?_) (fun c250 => ?_)
      · exact b276 M k2 (kq + 1) (nq + 64) (zz + 1) (by omega) (by omega) (by omega) hC (e1.trans hO)
      · have hd0 := d0_rng (k := k2) (q := p) (l := 1 + l0) (n := n) (by omega) (e3 (by omega))
        refine hg_aload_n dL_law_253 rfl ?_
        refine hz_iconst dL_law_254 ?_
        refine hz_callVV dL_law_255 lm_L_48 lk_X8_decoded ((c_decoded hC (by omega)).as (k' := k2) (v := (oDecoded 0 k2).1) (rfl)) rfl rfl m_c rfl (mkRoom rfl rfl) (Nat.le_of_ble_eq_true rfl) hkq hnq (fun M r hp => ?_)
        obtain ⟨rfl, hC, o1⟩ := hp
        have m_c : M c = _ := hC.1
        refine hz_bipush dL_law_258 (by decide +kernel) ?_
        refine hz_icmp_eq (tgt := 276) dL_law_260 (by decide) (by omega) (by omega) (fun c260 => ?_) (fun c260 => ?_)
        · exact b276 M k2 (kq + 1) (nq + 64) (zz + 1) (by omega) (by omega) (by omega) hC (e1.trans hO)
        · refine hg_aload_n dL_law_263 rfl ?_
          refine hg_iload dL_law_264 rfl ?_
          refine hg_iload dL_law_266 rfl ?_
          refine hg_iload dL_law_268 rfl ?_
          refine hz_callSV dL_law_270 lm_L_125 lk_L_agrees (x_agrees hC (e3 (by omega)) hp (by omega) (by omega)) rfl rfl (mkRoom rfl rfl) (Nat.le_of_ble_eq_true rfl) hkq hnq (fun M r hp => ?_)
          obtain ⟨rfl, hC, o1⟩ := hp
          have m_c : M c = _ := hC.1
          refine hz_if_eq (tgt := 314) dL_law_273 (by decide) (by omega) (fun c273 => absurd c273 (by omega)) (fun c273 => ?_)
          exact b276 M k2 (kq + 1) (nq + 64) (zz + 1) (by omega) (by omega) (by omega) hC (e1.trans hO)
    refine hg_iload dL_law_125 rfl ?_
    refine hz_iconst dL_law_127 ?_
    refine hz_icmp_ge (tgt := 322) dL_law_128 (by decide) (by omega) (by omega) (fun c128 => absurd c128 (by omega)) (fun c128 => ?_)
    refine hg_aload_n dL_law_131 rfl ?_
    refine hz_iconst dL_law_132 ?_
    refine hg_iload dL_law_133 rfl ?_
    refine hz_iadd dL_law_135 ?_
    refine GS.top (v' := vI ((1 + j : Nat) : Int)) (by rw [show (1 : Int) + (j : Int) = ((1 + j : Nat) : Int) by omega]) ?_
    refine hz_callX dL_law_136 lm_L_96 lk_L_cell (x_cell (j := 1 + j) hL (by omega) hpe) rfl rfl (mkRoom rfl rfl) (Nat.le_of_ble_eq_true rfl) hkq hnq ?_
    refine hg_istore dL_law_139 (Nat.le_of_ble_eq_true rfl) ?_
    refine hz_iconst dL_law_141 ?_
    refine hg_iload dL_law_142 rfl ?_
    refine hz_bipush dL_law_144 (by decide +kernel) ?_
    refine hg_ishr dL_law_146 ?_
    refine GS.top (v' := vI (p / 2 ^ 24)) (shr_e hp 24 (by omega)) ?_
    refine hz_bipush dL_law_147 (by decide +kernel) ?_
    refine hz_callSR dL_law_149 lm_L_70 lk_L_up ((x_up (div_rng hp _) (by omega)).eq (by rw [hl0])) rfl rfl (mkRoom rfl rfl) (Nat.le_of_ble_eq_true rfl) hkq hnq ?_
    refine hz_iadd dL_law_152 ?_
    refine hg_istore dL_law_153 (Nat.le_of_ble_eq_true rfl) ?_
    refine hg_iload dL_law_155 rfl ?_
    refine hz_bipush dL_law_157 (by decide +kernel) ?_
    refine hg_ishr dL_law_159 ?_
    refine GS.top (v' := vI (p / 2 ^ 27)) (shr_e hp 27 (by omega)) ?_
    refine hz_bipush dL_law_160 (by decide +kernel) ?_
    refine hz_callSR dL_law_162 lm_L_70 lk_L_up ((x_up (div_rng hp _) (by omega)).eq (by rw [hn])) rfl rfl (mkRoom rfl rfl) (Nat.le_of_ble_eq_true rfl) hkq hnq ?_
    refine hg_istore dL_law_165 (Nat.le_of_ble_eq_true rfl) ?_
    refine hg_aload_n dL_law_167 rfl ?_
    refine hz_sipush dL_law_168 (by decide +kernel) ?_
    refine hz_callVV dL_law_171 lm_L_38 lk_X8_remove ((c_remove hC (by omega)).as (k' := (k.1, k.2.1, [])) (v := 0) (rm_e hk200)) rfl rfl m_c rfl (mkRoom rfl rfl) (Nat.le_of_ble_eq_true rfl) hkq hnq (fun M r hp => ?_)
    obtain ⟨rfl, hC, o1⟩ := hp
    have m_c : M c = _ := hC.1
    refine hz_if_ne (tgt := 192) dL_law_174 (by decide) (by omega) (fun c174 => absurd c174 (by omega)) (fun c174 => ?_)
    refine hg_aload_n dL_law_177 rfl ?_
    refine hg_iload dL_law_178 rfl ?_
    refine hg_iload dL_law_180 rfl ?_
    refine hg_iload dL_law_182 rfl ?_
    refine hz_callSV dL_law_184 lm_L_111 lk_L_types (x_types hC rfl hp (by omega) (by omega)) rfl rfl (mkRoom rfl rfl) (Nat.le_of_ble_eq_true rfl) hkq hnq (fun M r hp => ?_)
    obtain ⟨rfl, hC, o1⟩ := hp
    have m_c : M c = _ := hC.1
    refine hg_iload dL_law_187 rfl ?_
    refine hg_icmp_eq (tgt := 194) dL_law_189 (by decide) (fun _ => ?_) (fun h => absurd rfl h)
    refine hg_iload dL_law_194 rfl ?_
    refine hz_iconst dL_law_196 ?_
    refine hg_iand dL_law_197 ?_
    refine GS.top (v' := vI (p % 4)) (by rw [iZ_and3]) ?_
    refine hz_if_ne (tgt := 226) dL_law_198 (by decide) (by omega) (fun c198 => ?_) (fun c198 => ?_)
    · first
      | exact b226 M _ hC hO rfl
    · refine hg_aload_n dL_law_201 rfl ?_
      refine hz_callVV dL_law_202 lm_L_115 lk_X8_learn ((c_learn hC).as (k' := lrnd (k.1, k.2.1, txt p (1 + l0) n)) (v := ((sT (lrnd (k.1, k.2.1, txt p (1 + l0) n)).1).length : Int)) (le_e)) rfl rfl m_c rfl (mkRoom rfl rfl) (Nat.le_of_ble_eq_true rfl) hkq hnq (fun M r hp => ?_)
      obtain ⟨rfl, hC, o1⟩ := hp
      have m_c : M c = _ := hC.1
      have hl1 := lrnd_len (k.1, k.2.1, txt p (1 + l0) n)
      have hl2 : (sT (lrnd (k.1, k.2.1, txt p (1 + l0) n)).1).length ≤ 250 := hC.facts.1.2.1.1
      have hl3 := hC.facts.2.2.2.2.2.2
      refine hz_iconst dL_law_205 ?_
      refine hz_icmp_lt (tgt := 224) dL_law_206 (by decide) (by omega) (by omega) (fun c206 => absurd c206 (by omega)) (fun c206 => ?_)
      refine hg_aload_n dL_law_209 rfl ?_
      have hl4 : (hpush k.2.1 k.1).length ≤ 4 := hl3
      refine hz_callVV dL_law_210 lm_L_87 lk_X8_undo ((c_undo hC).as (k' := (k.1, (hpush k.2.1 k.1).dropLast, txt p (1 + l0) n)) (v := (((hpush k.2.1 k.1).length - 1 : Nat) : Int)) (lrnd_u)) rfl rfl m_c rfl (mkRoom rfl rfl) (Nat.le_of_ble_eq_true rfl) hkq hnq (fun M r hp => ?_)
      obtain ⟨rfl, hC, o1⟩ := hp
      have m_c : M c = _ := hC.1
      refine hz_if_lt (tgt := 224) dL_law_213 (by decide) (by omega) (fun c213 => absurd c213 (by omega)) (fun c213 => ?_)
      refine hg_aload_n dL_law_216 rfl ?_
      refine hz_callVV dL_law_217 lm_L_115 lk_X8_learn ((c_learn hC).as (k' := lrnd (k.1, (hpush k.2.1 k.1).dropLast, txt p (1 + l0) n)) (v := ((sT (lrnd (k.1, (hpush k.2.1 k.1).dropLast, txt p (1 + l0) n)).1).length : Int)) (le_e)) rfl rfl m_c rfl (mkRoom rfl rfl) (Nat.le_of_ble_eq_true rfl) hkq hnq (fun M r hp => ?_)
      obtain ⟨rfl, hC, o1⟩ := hp
      have m_c : M c = _ := hC.1
      have hl1 := lrnd_len (k.1, (hpush k.2.1 k.1).dropLast, txt p (1 + l0) n)
      have hl2 : (sT (lrnd (k.1, (hpush k.2.1 k.1).dropLast, txt p (1 + l0) n)).1).length ≤ 250 := hC.facts.1.2.1.1
      have hl3 := hC.facts.2.2.2.2.2.2
      refine hz_iconst dL_law_220 ?_
      refine hz_icmp_ge (tgt := 226) dL_law_221 (by decide) (by omega) (by omega) (fun c221 => ?_) (fun c221 => absurd c221 (by omega))
      first
      | exact b226 M _ hC hO rfl
