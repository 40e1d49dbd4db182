/-! the reference: a code is read -/
set_option maxHeartbeats 1000000 in
theorem r_decodesAll {M0 : pM} {z d : Nat} {pm ty lo ra mm lg co ec cd wr tc mo tk fm : Int} (m_d : M0 d = some (ro d pm ty lo ra mm lg co ec cd wr tc mo tk fm)) {g : Nat → Int} (m_v : M0 (d + 1) = some (arI 25700 g)) {t : tbl} (hv : VM g t) (ht : okT t) (hS : okS (g 0) (g 1) (g 2) (g 3)) {ex : Nat → Bool} (hg : Go M0 d ex) {cs : List Int} (hc : CB g cs) (hb : okB cs) {gf : Nat → Int} (m_fo : M0 (d + 8) = some (arI 201 gf)) : CW I_X9_decodesAll yX9_decodesAll [.ref d] M0 z (fun M' r => r = some (vI (drun (g 0) (g 1) (g 2) (g 3) cs 201 t [] (dbeg cs)).1) ∧ ∃ ys : List Int, (∃ ra co ec cd mo tk : Int, M' d = some (ro d pm ty lo ra mm lg co ec cd wr tc mo tk (ys.length : Int))) ∧ (∃ g', M' (d + 1) = some (arI 25700 g')) ∧ (∃ ex, Go M' d ex) ∧ Tx M' (d + 8) 201 ys ∧ okX ys ∧ ys.length ≤ 200 ∧ ((drun (g 0) (g 1) (g 2) (g 3) cs 201 t [] (dbeg cs)).1 = 0 → ys = (drun (g 0) (g 1) (g 2) (g 3) cs 201 t [] (dbeg cs)).2.2) ∧ (∀ x : Nat, ¬ (x = d ∨ x = d + 1 ∨ x = d + 6 ∨ x = d + 8) → M' x = M0 x)) := by
  have fr : (∀ x : Nat, ¬ (x = d ∨ x = d + 1 ∨ x = d + 6 ∨ x = d + 8) → M0 x = M0 x) := fun _ _ => rfl
  refine C.intro (pl := [some (.ref d), none]) pn_X9 rfl (fun h => absurd h (by decide)) rfl (Nat.le_of_ble_eq_true rfl) rfl ?_
  have loop : ∀ (R : Int × tbl × List Int) (u : Nat) (t : tbl) (ys : List Int) (D : ds) (m : Nat) (M : pM) (g1 : Nat → Int) (ex : Nat → Bool) (co ec cd : Int), ys.length + u = 200 → okT t → okX ys → okD D m → m + 20 * u ≤ 80000 → drun (g 0) (g 1) (g 2) (g 3) cs (u + 1) t ys D = R → M d = some (ro d pm ty lo (rd t ys ys.length (g 1) (g 0) cs D).2.2.2 mm lg co ec cd wr tc (rd t ys ys.length (g 1) (g 0) cs D).2.2.1 ((rd t ys ys.length (g 1) (g 0) cs D).2.1 : Int) (ys.length : Int)) → M (d + 1) = some (arI 25700 g1) → VM g1 t → VO g g1 → Tx M (d + 8) 201 ys → Go M d ex → (∀ x : Nat, ¬ (x = d ∨ x = d + 1 ∨ x = d + 6 ∨ x = d + 8) → M x = M0 x) → G I_X9_decodesAll 0 0 (fun M' z' r' => z' = z ∧ r' = some (vI R.1) ∧ ∃ ys : List Int, (∃ ra co ec cd mo tk : Int, M' d = some (ro d pm ty lo ra mm lg co ec cd wr tc mo tk (ys.length : Int))) ∧ (∃ g', M' (d + 1) = some (arI 25700 g')) ∧ (∃ ex, Go M' d ex) ∧ Tx M' (d + 8) 201 ys ∧ okX ys ∧ ys.length ≤ 200 ∧ (R.1 = 0 → ys = R.2.2) ∧ (∀ x : Nat, ¬ (x = d ∨ x = d + 1 ∨ x = d + 6 ∨ x = d + 8) → M' x = M0 x)) 0 0 63 [some (.ref d), some (vI (rd t ys ys.length (g 1) (g 0) cs D).1)] [] M z := by
    intro R u
    induction u with
    | zero =>
      intro t ys D m M g1 ex co ec cd hl ht hx hk hm hR m_d m_v hv ho h hg fr
      rw [drun] at hR
      obtain ⟨ko, kl, ku⟩ := rdp_ok hb (g := fun j => cnO t (ky ys ys.length j)) (exc := g 1) (fun n c hh => ht.cnO hh) (nOrd (g 0) ys.length) (fun _ => false) D m hk
      have ko : okD (rd t ys ys.length (g 1) (g 0) cs D).2 (m + 4 * nOrd (g 0) ys.length + 4) := ko
      have kl : -1 ≤ (rd t ys ys.length (g 1) (g 0) cs D).1 := kl
      have ku : (rd t ys ys.length (g 1) (g 0) cs D).1 < 96 := ku
      have hno : nOrd (g 0) ys.length ≤ 4 := by have := hS.1; unfold nOrd; omega
      by_cases h0 : (rd t ys ys.length (g 1) (g 0) cs D).1 < 0
      · rw [if_pos h0] at hR
        have hR1 : R.1 = 3 := by rw [← hR]
        refine g_iload_n dX9_decodesAll_63 rfl ?_
        refine z_bipush dX9_decodesAll_64 (by decide +kernel) ?_
        refine z_icmp_eq (tgt := 139) dX9_decodesAll_66 (by decide) (by omega) (by omega) (fun c66 => absurd c66 (by omega)) (fun c66 => ?_)
        refine g_iload_n dX9_decodesAll_69 rfl ?_
        refine z_if_ge (tgt := 75) dX9_decodesAll_70 (by decide) (by omega) (fun c70 => absurd c70 (by omega)) (fun c70 => ?_)
        refine z_iconst dX9_decodesAll_73 ?_
        exact g_ireturn dX9_decodesAll_74 rfl (Nat.le_of_ble_eq_true rfl) (Nat.le_of_ble_eq_true rfl) ⟨rfl, by rw [hR1], ys, ⟨_, _, _, _, _, _, m_d⟩, ⟨_, m_v⟩, ⟨ex, hg⟩, h, hx, by omega, fun q => absurd q (by omega), fr⟩
      · rw [if_neg h0] at hR
        by_cases h1 : (rd t ys ys.length (g 1) (g 0) cs D).1 = 95
        · rw [if_pos h1] at hR
          by_cases h2 : dnum (rd t ys ys.length (g 1) (g 0) cs D).2 65536 = chk ys
          · rw [if_pos h2] at hR
            have hR1 : R.1 = 0 := by rw [← hR]
            have hR3 : R.2.2 = ys := by rw [← hR]
            have hch := chk_rng ys
            refine g_iload_n dX9_decodesAll_63 rfl ?_
            refine z_bipush dX9_decodesAll_64 (by decide +kernel) ?_
            refine z_icmp_eq (tgt := 139) dX9_decodesAll_66 (by decide) (by omega) (by omega) (fun c66 => ?_) (fun c66 => absurd c66 (by omega))
            refine g_aload_n dX9_decodesAll_139 rfl ?_
            refine z_ldc (65536) dX9_decodesAll_140 kc_X9_88 rfl ?_
            refine z_callVR dX9_decodesAll_142 lm_X9_190 lk_X9_target (r_target (t := 65536) m_d ko (by omega)) rfl rfl m_d rfl (mkRoom rfl rfl) (Nat.le_of_ble_eq_true rfl) (Nat.le_of_ble_eq_true rfl) (Nat.le_of_ble_eq_true rfl) ?_
            refine g_aload_n dX9_decodesAll_145 rfl ?_
            refine z_getf fl_X9_33 dX9_decodesAll_146 m_d rfl ?_
            refine g_aload_n dX9_decodesAll_149 rfl ?_
            refine z_getf fl_X9_196 dX9_decodesAll_150 m_d rfl ?_
            refine z_callSR dX9_decodesAll_153 lm_X9_163 lk_X9_checkOf (r_checkOf h hx) rfl rfl (mkRoom rfl rfl) (Nat.le_of_ble_eq_true rfl) (Nat.le_of_ble_eq_true rfl) (Nat.le_of_ble_eq_true rfl) ?_
            refine z_icmp_ne (tgt := 163) dX9_decodesAll_156 (by decide) (by omega) (by omega) (fun c156 => absurd c156 (by omega)) (fun c156 => ?_)
            refine z_iconst dX9_decodesAll_159 ?_
            refine g_goto (tgt := 164) dX9_decodesAll_160 (by decide) ?_
            exact g_ireturn dX9_decodesAll_164 rfl (Nat.le_of_ble_eq_true rfl) (Nat.le_of_ble_eq_true rfl) ⟨rfl, by rw [hR1], ys, ⟨_, _, _, _, _, _, m_d⟩, ⟨_, m_v⟩, ⟨ex, hg⟩, h, hx, by omega, fun _ => hR3.symm, fr⟩
          · rw [if_neg h2] at hR
            have hR1 : R.1 = 2 := by rw [← hR]
            have hch := chk_rng ys
            have hdn := dnum_rng (t := 65536) ko (by omega)
            refine g_iload_n dX9_decodesAll_63 rfl ?_
            refine z_bipush dX9_decodesAll_64 (by decide +kernel) ?_
            refine z_icmp_eq (tgt := 139) dX9_decodesAll_66 (by decide) (by omega) (by omega) (fun c66 => ?_) (fun c66 => absurd c66 (by omega))
            refine g_aload_n dX9_decodesAll_139 rfl ?_
            refine z_ldc (65536) dX9_decodesAll_140 kc_X9_88 rfl ?_
            refine z_callVR dX9_decodesAll_142 lm_X9_190 lk_X9_target (r_target (t := 65536) m_d ko (by omega)) rfl rfl m_d rfl (mkRoom rfl rfl) (Nat.le_of_ble_eq_true rfl) (Nat.le_of_ble_eq_true rfl) (Nat.le_of_ble_eq_true rfl) ?_
            refine g_aload_n dX9_decodesAll_145 rfl ?_
            refine z_getf fl_X9_33 dX9_decodesAll_146 m_d rfl ?_
            refine g_aload_n dX9_decodesAll_149 rfl ?_
            refine z_getf fl_X9_196 dX9_decodesAll_150 m_d rfl ?_
            refine z_callSR dX9_decodesAll_153 lm_X9_163 lk_X9_checkOf (r_checkOf h hx) rfl rfl (mkRoom rfl rfl) (Nat.le_of_ble_eq_true rfl) (Nat.le_of_ble_eq_true rfl) (Nat.le_of_ble_eq_true rfl) ?_
            refine z_icmp_ne (tgt := 163) dX9_decodesAll_156 (by decide) (by omega) (by omega) (fun c156 => ?_) (fun c156 => absurd c156 (by omega))
            refine z_iconst dX9_decodesAll_163 ?_
            exact g_ireturn dX9_decodesAll_164 rfl (Nat.le_of_ble_eq_true rfl) (Nat.le_of_ble_eq_true rfl) ⟨rfl, by rw [hR1], ys, ⟨_, _, _, _, _, _, m_d⟩, ⟨_, m_v⟩, ⟨ex, hg⟩, h, hx, by omega, fun q => absurd q (by omega), fr⟩
        · rw [if_neg h1, drun] at hR
          have hR1 : R.1 = 1 := by rw [← hR]
          refine g_iload_n dX9_decodesAll_63 rfl ?_
          refine z_bipush dX9_decodesAll_64 (by decide +kernel) ?_
          refine z_icmp_eq (tgt := 139) dX9_decodesAll_66 (by decide) (by omega) (by omega) (fun c66 => absurd c66 (by omega)) (fun c66 => ?_)
          refine g_iload_n dX9_decodesAll_69 rfl ?_
          refine z_if_ge (tgt := 75) dX9_decodesAll_70 (by decide) (by omega) (fun c70 => ?_) (fun c70 => absurd c70 (by omega))
          refine g_aload_n dX9_decodesAll_75 rfl ?_
          refine z_getf fl_X9_196 dX9_decodesAll_76 m_d rfl ?_
          refine z_sipush dX9_decodesAll_79 (by decide +kernel) ?_
          refine z_icmp_ne (tgt := 87) dX9_decodesAll_82 (by decide) (by omega) (by omega) (fun c82 => absurd c82 (by omega)) (fun c82 => ?_)
          refine z_iconst dX9_decodesAll_85 ?_
          exact g_ireturn dX9_decodesAll_86 rfl (Nat.le_of_ble_eq_true rfl) (Nat.le_of_ble_eq_true rfl) ⟨rfl, by rw [hR1], ys, ⟨_, _, _, _, _, _, m_d⟩, ⟨_, m_v⟩, ⟨ex, hg⟩, h, hx, by omega, fun q => absurd q (by omega), fr⟩
    | succ u ih =>
      intro t ys D m M g1 ex co ec cd hl ht hx hk hm hR m_d m_v hv ho h hg fr
      rw [drun] at hR
      obtain ⟨ko, kl, ku⟩ := rdp_ok hb (g := fun j => cnO t (ky ys ys.length j)) (exc := g 1) (fun n c hh => ht.cnO hh) (nOrd (g 0) ys.length) (fun _ => false) D m hk
      have ko : okD (rd t ys ys.length (g 1) (g 0) cs D).2 (m + 4 * nOrd (g 0) ys.length + 4) := ko
      have kl : -1 ≤ (rd t ys ys.length (g 1) (g 0) cs D).1 := kl
      have ku : (rd t ys ys.length (g 1) (g 0) cs D).1 < 96 := ku
      have hno : nOrd (g 0) ys.length ≤ 4 := by have := hS.1; unfold nOrd; omega
      by_cases h0 : (rd t ys ys.length (g 1) (g 0) cs D).1 < 0
      · rw [if_pos h0] at hR
        have hR1 : R.1 = 3 := by rw [← hR]
        refine g_iload_n dX9_decodesAll_63 rfl ?_
        refine z_bipush dX9_decodesAll_64 (by decide +kernel) ?_
        refine z_icmp_eq (tgt := 139) dX9_decodesAll_66 (by decide) (by omega) (by omega) (fun c66 => absurd c66 (by omega)) (fun c66 => ?_)
        refine g_iload_n dX9_decodesAll_69 rfl ?_
        refine z_if_ge (tgt := 75) dX9_decodesAll_70 (by decide) (by omega) (fun c70 => absurd c70 (by omega)) (fun c70 => ?_)
        refine z_iconst dX9_decodesAll_73 ?_
        exact g_ireturn dX9_decodesAll_74 rfl (Nat.le_of_ble_eq_true rfl) (Nat.le_of_ble_eq_true rfl) ⟨rfl, by rw [hR1], ys, ⟨_, _, _, _, _, _, m_d⟩, ⟨_, m_v⟩, ⟨ex, hg⟩, h, hx, by omega, fun q => absurd q (by omega), fr⟩
      · rw [if_neg h0] at hR
        by_cases h1 : (rd t ys ys.length (g 1) (g 0) cs D).1 = 95
        · rw [if_pos h1] at hR
          by_cases h2 : dnum (rd t ys ys.length (g 1) (g 0) cs D).2 65536 = chk ys
          · rw [if_pos h2] at hR
            have hR1 : R.1 = 0 := by rw [← hR]
            have hR3 : R.2.2 = ys := by rw [← hR]
            have hch := chk_rng ys
            refine g_iload_n dX9_decodesAll_63 rfl ?_
            refine z_bipush dX9_decodesAll_64 (by decide +kernel) ?_
            refine z_icmp_eq (tgt := 139) dX9_decodesAll_66 (by decide) (by omega) (by omega) (fun c66 => ?_) (fun c66 => absurd c66 (by omega))
            refine g_aload_n dX9_decodesAll_139 rfl ?_
            refine z_ldc (65536) dX9_decodesAll_140 kc_X9_88 rfl ?_
            refine z_callVR dX9_decodesAll_142 lm_X9_190 lk_X9_target (r_target (t := 65536) m_d ko (by omega)) rfl rfl m_d rfl (mkRoom rfl rfl) (Nat.le_of_ble_eq_true rfl) (Nat.le_of_ble_eq_true rfl) (Nat.le_of_ble_eq_true rfl) ?_
            refine g_aload_n dX9_decodesAll_145 rfl ?_
            refine z_getf fl_X9_33 dX9_decodesAll_146 m_d rfl ?_
            refine g_aload_n dX9_decodesAll_149 rfl ?_
            refine z_getf fl_X9_196 dX9_decodesAll_150 m_d rfl ?_
            refine z_callSR dX9_decodesAll_153 lm_X9_163 lk_X9_checkOf (r_checkOf h hx) rfl rfl (mkRoom rfl rfl) (Nat.le_of_ble_eq_true rfl) (Nat.le_of_ble_eq_true rfl) (Nat.le_of_ble_eq_true rfl) ?_
            refine z_icmp_ne (tgt := 163) dX9_decodesAll_156 (by decide) (by omega) (by omega) (fun c156 => absurd c156 (by omega)) (fun c156 => ?_)
            refine z_iconst dX9_decodesAll_159 ?_
            refine g_goto (tgt := 164) dX9_decodesAll_160 (by decide) ?_
            exact g_ireturn dX9_decodesAll_164 rfl (Nat.le_of_ble_eq_true rfl) (Nat.le_of_ble_eq_true rfl) ⟨rfl, by rw [hR1], ys, ⟨_, _, _, _, _, _, m_d⟩, ⟨_, m_v⟩, ⟨ex, hg⟩, h, hx, by omega, fun _ => hR3.symm, fr⟩
          · rw [if_neg h2] at hR
            have hR1 : R.1 = 2 := by rw [← hR]
            have hch := chk_rng ys
            have hdn := dnum_rng (t := 65536) ko (by omega)
            refine g_iload_n dX9_decodesAll_63 rfl ?_
            refine z_bipush dX9_decodesAll_64 (by decide +kernel) ?_
            refine z_icmp_eq (tgt := 139) dX9_decodesAll_66 (by decide) (by omega) (by omega) (fun c66 => ?_) (fun c66 => absurd c66 (by omega))
            refine g_aload_n dX9_decodesAll_139 rfl ?_
            refine z_ldc (65536) dX9_decodesAll_140 kc_X9_88 rfl ?_
            refine z_callVR dX9_decodesAll_142 lm_X9_190 lk_X9_target (r_target (t := 65536) m_d ko (by omega)) rfl rfl m_d rfl (mkRoom rfl rfl) (Nat.le_of_ble_eq_true rfl) (Nat.le_of_ble_eq_true rfl) (Nat.le_of_ble_eq_true rfl) ?_
            refine g_aload_n dX9_decodesAll_145 rfl ?_
            refine z_getf fl_X9_33 dX9_decodesAll_146 m_d rfl ?_
            refine g_aload_n dX9_decodesAll_149 rfl ?_
            refine z_getf fl_X9_196 dX9_decodesAll_150 m_d rfl ?_
            refine z_callSR dX9_decodesAll_153 lm_X9_163 lk_X9_checkOf (r_checkOf h hx) rfl rfl (mkRoom rfl rfl) (Nat.le_of_ble_eq_true rfl) (Nat.le_of_ble_eq_true rfl) (Nat.le_of_ble_eq_true rfl) ?_
            refine z_icmp_ne (tgt := 163) dX9_decodesAll_156 (by decide) (by omega) (by omega) (fun c156 => ?_) (fun c156 => absurd c156 (by omega))
            refine z_iconst dX9_decodesAll_163 ?_
            exact g_ireturn dX9_decodesAll_164 rfl (Nat.le_of_ble_eq_true rfl) (Nat.le_of_ble_eq_true rfl) ⟨rfl, by rw [hR1], ys, ⟨_, _, _, _, _, _, m_d⟩, ⟨_, m_v⟩, ⟨ex, hg⟩, h, hx, by omega, fun q => absurd q (by omega), fr⟩
        · rw [if_neg h1] at hR
          have p0 := ho 0 (by omega)
          have p1 := ho 1 (by omega)
          have p2 := ho 2 (by omega)
          have p3 := ho 3 (by omega)
          have hS1 : okS (g1 0) (g1 1) (g1 2) (g1 3) := by rw [p0, p1, p2, p3]; exact hS
          have hSc := hS.2.2.1
          have hSd := hS.2.2.2
          generalize hF : (rd t ys ys.length (g 1) (g 0) cs D) = F at m_d hR ko kl ku h0 h1 ⊢
          obtain ⟨S, D2⟩ := F
          dsimp only at m_d hR ko kl ku h0 h1
          dsimp only
          obtain ⟨s, rfl⟩ : ∃ s : Nat, S = (s : Int) := ⟨S.toNat, by omega⟩
          rw [Int.toNat_natCast] at hR
          have hs96 : s < 96 := by omega
          have htj := okT_incr ht (f := ky ys ys.length) (n := nOrd (g 0) ys.length) hs96 hSc hSd (fun j hj => ky_rng hx (Nat.le_refl _) (by unfold nOrd at hj; omega) (by have := hS.1; unfold nOrd at hj; omega))
          have hx2 : okX (ys ++ [(s : Int)]) := hx.snoc (by omega)
          have hlen : (ys ++ [(s : Int)]).length = ys.length + 1 := by rw [List.length_append, List.length_singleton]
          refine g_iload_n dX9_decodesAll_63 rfl ?_
          refine z_bipush dX9_decodesAll_64 (by decide +kernel) ?_
          refine z_icmp_eq (tgt := 139) dX9_decodesAll_66 (by decide) (by omega) (by omega) (fun c66 => absurd c66 (by omega)) (fun c66 => ?_)
          refine g_iload_n dX9_decodesAll_69 rfl ?_
          refine z_if_ge (tgt := 75) dX9_decodesAll_70 (by decide) (by omega) (fun c70 => ?_) (fun c70 => absurd c70 (by omega))
          refine g_aload_n dX9_decodesAll_75 rfl ?_
          refine z_getf fl_X9_196 dX9_decodesAll_76 m_d rfl ?_
          refine z_sipush dX9_decodesAll_79 (by decide +kernel) ?_
          refine z_icmp_ne (tgt := 87) dX9_decodesAll_82 (by decide) (by omega) (by omega) (fun c82 => ?_) (fun c82 => absurd c82 (by omega))
          refine g_aload_n dX9_decodesAll_87 rfl ?_
          refine g_aload_n dX9_decodesAll_88 rfl ?_
          refine z_getf fl_X9_33 dX9_decodesAll_89 m_d rfl ?_
          refine g_aload_n dX9_decodesAll_92 rfl ?_
          refine z_getf fl_X9_196 dX9_decodesAll_93 m_d rfl ?_
          refine g_iload_n dX9_decodesAll_96 rfl ?_
          refine z_callVV dX9_decodesAll_97 lm_X9_146 lk_X9_learns (r_learns (s := s) m_d m_v hv ht hS1 h (by omega) hx (Nat.le_refl _) hs96) rfl rfl m_d rfl (mkRoom rfl rfl) (Nat.le_of_ble_eq_true rfl) (Nat.le_of_ble_eq_true rfl) (Nat.le_of_ble_eq_true rfl) (fun M r hp => ?_)
          rw [p0, p2, p3] at hp
          obtain ⟨rfl, g2, m_v, hv, ho2, o1⟩ := hp
          have m_d := (o1 _ (by omega)).trans m_d
          have hg := hg.by_ (o1 _ (by omega))
          obtain ⟨gf2, m_fo, hf1, hf2, hf3⟩ := h.by_ (o1 _ (by omega))
          have fr : (∀ x : Nat, ¬ (x = d ∨ x = d + 1 ∨ x = d + 6 ∨ x = d + 8) → M x = M0 x) := fun x hx => (o1 x (by omega)).trans (fr x hx)
          refine g_aload_n dX9_decodesAll_100 rfl ?_
          refine z_getf fl_X9_33 dX9_decodesAll_101 m_d rfl ?_
          refine g_aload_n dX9_decodesAll_104 rfl ?_
          refine z_getf fl_X9_196 dX9_decodesAll_105 m_d rfl ?_
          refine g_iload_n dX9_decodesAll_108 rfl ?_
          refine z_bipush dX9_decodesAll_109 (by decide +kernel) ?_
          refine z_iadd dX9_decodesAll_111 ?_
          refine z_iastore (j := ys.length) dX9_decodesAll_112 m_fo (by omega) (by omega) (by omega) (fun M m_fo o => ?_)
          have m_d := (o _ (by omega)).trans m_d
          have fr : (∀ x : Nat, ¬ (x = d ∨ x = d + 1 ∨ x = d + 6 ∨ x = d + 8) → M x = M0 x) := fun x hx => (o x (by omega)).trans (fr x hx)
          have m_v := (o _ (by omega)).trans m_v
          have hg := hg.by_ (o _ (by omega))
          refine g_aload_n dX9_decodesAll_113 rfl ?_
          refine g_dup dX9_decodesAll_114 rfl ?_
          refine z_getf fl_X9_196 dX9_decodesAll_115 m_d rfl ?_
          refine z_iconst dX9_decodesAll_118 ?_
          refine z_iadd dX9_decodesAll_119 ?_
          refine z_putf fl_X9_196 dX9_decodesAll_120 m_d rfl (Nat.le_of_ble_eq_true rfl) rfl rfl (fun M m_d o => ?_)
          have m_fo := (o _ (by omega)).trans m_fo
          have fr : (∀ x : Nat, ¬ (x = d ∨ x = d + 1 ∨ x = d + 6 ∨ x = d + 8) → M x = M0 x) := fun x hx => (o x (by omega)).trans (fr x hx)
          have m_v := (o _ (by omega)).trans m_v
          have hg := hg.by_ (o _ (by omega))
          refine g_aload_n dX9_decodesAll_123 rfl ?_
          refine g_aload_n dX9_decodesAll_124 rfl ?_
          refine z_getf fl_X9_33 dX9_decodesAll_125 m_d rfl ?_
          refine g_aload_n dX9_decodesAll_128 rfl ?_
          refine z_getf fl_X9_196 dX9_decodesAll_129 m_d rfl ?_
          have h2 : Tx M (d + 8) 201 (ys ++ [(s : Int)]) := ⟨_, m_fo, by omega, by omega, fun i hi => by
            by_cases e : i = ys.length
            · rw [e, upZ_s, getD_last]
            · rw [upZ_n e, hf3 i (by omega), getD_app (by omega)]⟩
          have hS2 : okS (g2 0) (g2 1) (g2 2) (g2 3) := by rw [ho2 0 (by omega), ho2 1 (by omega), ho2 2 (by omega), ho2 3 (by omega)]; exact hS1
          have e132 : ((ys.length : Int) + 1) = ((ys ++ [(s : Int)]).length : Int) := by omega
          rw [e132] at m_d
          refine G.top (v' := vI ((ys ++ [(s : Int)]).length : Int)) (by rw [e132]) ?_
          refine z_callVV dX9_decodesAll_132 lm_X9_199 lk_X9_decodes (r_decodes m_d m_v hv htj hS2 h2 (by omega) hx2 (Nat.le_refl _) hg (hc.by_ (ho.tr ho2)) hb ko (by omega)) rfl rfl m_d rfl (mkRoom rfl rfl) (Nat.le_of_ble_eq_true rfl) (Nat.le_of_ble_eq_true rfl) (Nat.le_of_ble_eq_true rfl) (fun M r hp => ?_)
          rw [ho2 0 (by omega), ho2 1 (by omega), p0, p1] at hp
          obtain ⟨rfl, m_d, ⟨ex2, hg⟩, o1⟩ := hp
          have m_v := (o1 _ (by omega)).trans m_v
          have h2 := h2.by_ (o1 _ (by omega))
          have fr : (∀ x : Nat, ¬ (x = d ∨ x = d + 1 ∨ x = d + 6 ∨ x = d + 8) → M x = M0 x) := fun x hx => (o1 x (by omega)).trans (fr x hx)
          refine g_istore_n dX9_decodesAll_135 rfl (Nat.le_of_ble_eq_true rfl) ?_
          refine g_goto (tgt := 63) dX9_decodesAll_136 (by decide) ?_
          exact ih _ (ys ++ [(s : Int)]) D2 _ M g2 ex2 _ _ _ (by omega) htj hx2 ko (by omega) hR m_d m_v hv (ho.tr ho2) h2 hg fr
  have hb0 := hb.get 0
  have hb1 := hb.get 1
  have hb2 := hb.get 2
  have hb3 := hb.get 3
  refine g_aload_n dX9_decodesAll_0 rfl ?_
  refine z_lconst (a := 0) dX9_decodesAll_1 rfl ?_
  refine z_putf fl_X9_183 dX9_decodesAll_2 m_d rfl (Nat.le_of_ble_eq_true rfl) rfl rfl (fun M m_d o => ?_)
  have m_v := (o _ (by omega)).trans m_v
  have fr : (∀ x : Nat, ¬ (x = d ∨ x = d + 1 ∨ x = d + 6 ∨ x = d + 8) → M x = M0 x) := fun x hx => (o x (by omega)).trans (fr x hx)
  have hg := hg.by_ (o _ (by omega))
  have m_fo := (o _ (by omega)).trans m_fo
  refine g_aload_n dX9_decodesAll_5 rfl ?_
  refine z_iconst dX9_decodesAll_6 ?_
  refine z_putf fl_X9_180 dX9_decodesAll_7 m_d rfl (Nat.le_of_ble_eq_true rfl) rfl rfl (fun M m_d o => ?_)
  have m_v := (o _ (by omega)).trans m_v
  have fr : (∀ x : Nat, ¬ (x = d ∨ x = d + 1 ∨ x = d + 6 ∨ x = d + 8) → M x = M0 x) := fun x hx => (o x (by omega)).trans (fr x hx)
  have hg := hg.by_ (o _ (by omega))
  have m_fo := (o _ (by omega)).trans m_fo
  refine g_aload_n dX9_decodesAll_10 rfl ?_
  refine z_ldc2 (4294967296) dX9_decodesAll_11 kc_X9_68 rfl ?_
  refine z_putf fl_X9_70 dX9_decodesAll_14 m_d rfl (Nat.le_of_ble_eq_true rfl) rfl rfl (fun M m_d o => ?_)
  have m_v := (o _ (by omega)).trans m_v
  have fr : (∀ x : Nat, ¬ (x = d ∨ x = d + 1 ∨ x = d + 6 ∨ x = d + 8) → M x = M0 x) := fun x hx => (o x (by omega)).trans (fr x hx)
  have hg := hg.by_ (o _ (by omega))
  have m_fo := (o _ (by omega)).trans m_fo
  refine z_iconst dX9_decodesAll_17 ?_
  refine g_istore_n dX9_decodesAll_18 rfl (Nat.le_of_ble_eq_true rfl) ?_
  refine g_iload_n dX9_decodesAll_19 rfl ?_
  refine z_iconst dX9_decodesAll_20 ?_
  refine z_icmp_ge (tgt := 48) dX9_decodesAll_21 (by decide) (by omega) (by omega) (fun c21 => absurd c21 (by omega)) (fun c21 => ?_)
  refine g_aload_n dX9_decodesAll_24 rfl ?_
  refine g_aload_n dX9_decodesAll_25 rfl ?_
  refine z_getf fl_X9_183 dX9_decodesAll_26 m_d rfl ?_
  refine z_ldc2 (256) dX9_decodesAll_29 kc_X9_84 rfl ?_
  refine z_lmul dX9_decodesAll_32 ?_
  refine g_aload_n dX9_decodesAll_33 rfl ?_
  refine z_callVV dX9_decodesAll_34 lm_X9_186 lk_X9_nextByte (r_nextByte (n := 0) m_d m_v hc (by omega)) rfl rfl m_d rfl (mkRoom rfl rfl) (Nat.le_of_ble_eq_true rfl) (Nat.le_of_ble_eq_true rfl) (Nat.le_of_ble_eq_true rfl) (fun M r hp => ?_)
  obtain ⟨rfl, m_d, o1⟩ := hp
  have m_v := (o1 _ (by omega)).trans m_v
  have m_fo := (o1 _ (by omega)).trans m_fo
  have hg := hg.by_ (o1 _ (by omega))
  have fr : (∀ x : Nat, ¬ (x = d ∨ x = d + 1 ∨ x = d + 6 ∨ x = d + 8) → M x = M0 x) := fun x hx => (o1 x (by omega)).trans (fr x hx)
  refine z_i2l dX9_decodesAll_37 (by omega) ?_
  refine z_ladd dX9_decodesAll_38 ?_
  refine z_putf fl_X9_183 dX9_decodesAll_39 m_d rfl (Nat.le_of_ble_eq_true rfl) rfl rfl (fun M m_d o => ?_)
  have m_v := (o _ (by omega)).trans m_v
  have fr : (∀ x : Nat, ¬ (x = d ∨ x = d + 1 ∨ x = d + 6 ∨ x = d + 8) → M x = M0 x) := fun x hx => (o x (by omega)).trans (fr x hx)
  have hg := hg.by_ (o _ (by omega))
  have m_fo := (o _ (by omega)).trans m_fo
  refine z_iinc dX9_decodesAll_42 rfl (Nat.le_of_ble_eq_true rfl) ?_
  refine g_goto (tgt := 19) dX9_decodesAll_45 (by decide) ?_
  refine g_iload_n dX9_decodesAll_19 rfl ?_
  refine z_iconst dX9_decodesAll_20 ?_
  refine z_icmp_ge (tgt := 48) dX9_decodesAll_21 (by decide) (by omega) (by omega) (fun c21 => absurd c21 (by omega)) (fun c21 => ?_)
  refine g_aload_n dX9_decodesAll_24 rfl ?_
  refine g_aload_n dX9_decodesAll_25 rfl ?_
  refine z_getf fl_X9_183 dX9_decodesAll_26 m_d rfl ?_
  refine z_ldc2 (256) dX9_decodesAll_29 kc_X9_84 rfl ?_
  refine z_lmul dX9_decodesAll_32 ?_
  refine g_aload_n dX9_decodesAll_33 rfl ?_
  refine z_callVV dX9_decodesAll_34 lm_X9_186 lk_X9_nextByte (r_nextByte (n := 1) m_d m_v hc (by omega)) rfl rfl m_d rfl (mkRoom rfl rfl) (Nat.le_of_ble_eq_true rfl) (Nat.le_of_ble_eq_true rfl) (Nat.le_of_ble_eq_true rfl) (fun M r hp => ?_)
  obtain ⟨rfl, m_d, o1⟩ := hp
  have m_v := (o1 _ (by omega)).trans m_v
  have m_fo := (o1 _ (by omega)).trans m_fo
  have hg := hg.by_ (o1 _ (by omega))
  have fr : (∀ x : Nat, ¬ (x = d ∨ x = d + 1 ∨ x = d + 6 ∨ x = d + 8) → M x = M0 x) := fun x hx => (o1 x (by omega)).trans (fr x hx)
  refine z_i2l dX9_decodesAll_37 (by omega) ?_
  refine z_ladd dX9_decodesAll_38 ?_
  refine z_putf fl_X9_183 dX9_decodesAll_39 m_d rfl (Nat.le_of_ble_eq_true rfl) rfl rfl (fun M m_d o => ?_)
  have m_v := (o _ (by omega)).trans m_v
  have fr : (∀ x : Nat, ¬ (x = d ∨ x = d + 1 ∨ x = d + 6 ∨ x = d + 8) → M x = M0 x) := fun x hx => (o x (by omega)).trans (fr x hx)
  have hg := hg.by_ (o _ (by omega))
  have m_fo := (o _ (by omega)).trans m_fo
  refine z_iinc dX9_decodesAll_42 rfl (Nat.le_of_ble_eq_true rfl) ?_
  refine g_goto (tgt := 19) dX9_decodesAll_45 (by decide) ?_
  refine g_iload_n dX9_decodesAll_19 rfl ?_
  refine z_iconst dX9_decodesAll_20 ?_
  refine z_icmp_ge (tgt := 48) dX9_decodesAll_21 (by decide) (by omega) (by omega) (fun c21 => absurd c21 (by omega)) (fun c21 => ?_)
  refine g_aload_n dX9_decodesAll_24 rfl ?_
  refine g_aload_n dX9_decodesAll_25 rfl ?_
  refine z_getf fl_X9_183 dX9_decodesAll_26 m_d rfl ?_
  refine z_ldc2 (256) dX9_decodesAll_29 kc_X9_84 rfl ?_
  refine z_lmul dX9_decodesAll_32 ?_
  refine g_aload_n dX9_decodesAll_33 rfl ?_
  refine z_callVV dX9_decodesAll_34 lm_X9_186 lk_X9_nextByte (r_nextByte (n := 2) m_d m_v hc (by omega)) rfl rfl m_d rfl (mkRoom rfl rfl) (Nat.le_of_ble_eq_true rfl) (Nat.le_of_ble_eq_true rfl) (Nat.le_of_ble_eq_true rfl) (fun M r hp => ?_)
  obtain ⟨rfl, m_d, o1⟩ := hp
  have m_v := (o1 _ (by omega)).trans m_v
  have m_fo := (o1 _ (by omega)).trans m_fo
  have hg := hg.by_ (o1 _ (by omega))
  have fr : (∀ x : Nat, ¬ (x = d ∨ x = d + 1 ∨ x = d + 6 ∨ x = d + 8) → M x = M0 x) := fun x hx => (o1 x (by omega)).trans (fr x hx)
  refine z_i2l dX9_decodesAll_37 (by omega) ?_
  refine z_ladd dX9_decodesAll_38 ?_
  refine z_putf fl_X9_183 dX9_decodesAll_39 m_d rfl (Nat.le_of_ble_eq_true rfl) rfl rfl (fun M m_d o => ?_)
  have m_v := (o _ (by omega)).trans m_v
  have fr : (∀ x : Nat, ¬ (x = d ∨ x = d + 1 ∨ x = d + 6 ∨ x = d + 8) → M x = M0 x) := fun x hx => (o x (by omega)).trans (fr x hx)
  have hg := hg.by_ (o _ (by omega))
  have m_fo := (o _ (by omega)).trans m_fo
  refine z_iinc dX9_decodesAll_42 rfl (Nat.le_of_ble_eq_true rfl) ?_
  refine g_goto (tgt := 19) dX9_decodesAll_45 (by decide) ?_
  refine g_iload_n dX9_decodesAll_19 rfl ?_
  refine z_iconst dX9_decodesAll_20 ?_
  refine z_icmp_ge (tgt := 48) dX9_decodesAll_21 (by decide) (by omega) (by omega) (fun c21 => absurd c21 (by omega)) (fun c21 => ?_)
  refine g_aload_n dX9_decodesAll_24 rfl ?_
  refine g_aload_n dX9_decodesAll_25 rfl ?_
  refine z_getf fl_X9_183 dX9_decodesAll_26 m_d rfl ?_
  refine z_ldc2 (256) dX9_decodesAll_29 kc_X9_84 rfl ?_
  refine z_lmul dX9_decodesAll_32 ?_
  refine g_aload_n dX9_decodesAll_33 rfl ?_
  refine z_callVV dX9_decodesAll_34 lm_X9_186 lk_X9_nextByte (r_nextByte (n := 3) m_d m_v hc (by omega)) rfl rfl m_d rfl (mkRoom rfl rfl) (Nat.le_of_ble_eq_true rfl) (Nat.le_of_ble_eq_true rfl) (Nat.le_of_ble_eq_true rfl) (fun M r hp => ?_)
  obtain ⟨rfl, m_d, o1⟩ := hp
  have m_v := (o1 _ (by omega)).trans m_v
  have m_fo := (o1 _ (by omega)).trans m_fo
  have hg := hg.by_ (o1 _ (by omega))
  have fr : (∀ x : Nat, ¬ (x = d ∨ x = d + 1 ∨ x = d + 6 ∨ x = d + 8) → M x = M0 x) := fun x hx => (o1 x (by omega)).trans (fr x hx)
  refine z_i2l dX9_decodesAll_37 (by omega) ?_
  refine z_ladd dX9_decodesAll_38 ?_
  refine z_putf fl_X9_183 dX9_decodesAll_39 m_d rfl (Nat.le_of_ble_eq_true rfl) rfl rfl (fun M m_d o => ?_)
  have m_v := (o _ (by omega)).trans m_v
  have fr : (∀ x : Nat, ¬ (x = d ∨ x = d + 1 ∨ x = d + 6 ∨ x = d + 8) → M x = M0 x) := fun x hx => (o x (by omega)).trans (fr x hx)
  have hg := hg.by_ (o _ (by omega))
  have m_fo := (o _ (by omega)).trans m_fo
  refine z_iinc dX9_decodesAll_42 rfl (Nat.le_of_ble_eq_true rfl) ?_
  refine g_goto (tgt := 19) dX9_decodesAll_45 (by decide) ?_
  refine g_iload_n dX9_decodesAll_19 rfl ?_
  refine z_iconst dX9_decodesAll_20 ?_
  refine z_icmp_ge (tgt := 48) dX9_decodesAll_21 (by decide) (by omega) (by omega) (fun c21 => ?_) (fun c21 => absurd c21 (by omega))
  refine g_aload_n dX9_decodesAll_48 rfl ?_
  refine z_iconst dX9_decodesAll_49 ?_
  refine z_putf fl_X9_196 dX9_decodesAll_50 m_d rfl (Nat.le_of_ble_eq_true rfl) rfl rfl (fun M m_d o => ?_)
  have m_v := (o _ (by omega)).trans m_v
  have fr : (∀ x : Nat, ¬ (x = d ∨ x = d + 1 ∨ x = d + 6 ∨ x = d + 8) → M x = M0 x) := fun x hx => (o x (by omega)).trans (fr x hx)
  have hg := hg.by_ (o _ (by omega))
  have m_fo := (o _ (by omega)).trans m_fo
  refine g_aload_n dX9_decodesAll_53 rfl ?_
  refine g_aload_n dX9_decodesAll_54 rfl ?_
  refine z_getf fl_X9_33 dX9_decodesAll_55 m_d rfl ?_
  refine z_iconst dX9_decodesAll_58 ?_
  have e0 : ((((0 * 256 + cs.getD 0 0) * 256 + cs.getD 1 0) * 256 + cs.getD 2 0) * 256 + cs.getD 3 0) = (dbeg cs).2.1 := by
    show _ = ((((0 * 256 + cs.getD 0 0) % 4294967296 * 256 + cs.getD 1 0) % 4294967296 * 256 + cs.getD 2 0) % 4294967296 * 256 + cs.getD 3 0) % 4294967296
    omega
  rw [e0] at m_d
  have h2 : Tx M (d + 8) 201 ([] : List Int) := ⟨_, m_fo, Nat.zero_le _, by omega, fun i hi => absurd hi (Nat.not_lt_zero _)⟩
  have m_d : M d = some (ro d pm ty lo (dbeg cs).2.2 mm lg co ec cd wr tc (dbeg cs).2.1 ((dbeg cs).1 : Int) (([] : List Int).length : Int)) := m_d
  refine z_callVV dX9_decodesAll_59 lm_X9_199 lk_X9_decodes (r_decodes (D := dbeg cs) m_d m_v hv ht hS h2 (by omega) (fun _ hx => absurd hx List.not_mem_nil) (Nat.le_refl _) hg hc hb (okD_beg cs) (by omega)) rfl rfl m_d rfl (mkRoom rfl rfl) (Nat.le_of_ble_eq_true rfl) (Nat.le_of_ble_eq_true rfl) (Nat.le_of_ble_eq_true rfl) (fun M r hp => ?_)
  obtain ⟨rfl, m_d, ⟨ex2, hg⟩, o1⟩ := hp
  have m_v := (o1 _ (by omega)).trans m_v
  have h2 := h2.by_ (o1 _ (by omega))
  have fr : (∀ x : Nat, ¬ (x = d ∨ x = d + 1 ∨ x = d + 6 ∨ x = d + 8) → M x = M0 x) := fun x hx => (o1 x (by omega)).trans (fr x hx)
  refine g_istore_n dX9_decodesAll_62 rfl (Nat.le_of_ble_eq_true rfl) ?_
  exact loop _ 200 t [] (dbeg cs) 4 M g ex2 _ _ _ rfl ht (fun _ hx => absurd hx List.not_mem_nil) (okD_beg cs) (by omega) rfl m_d m_v hv VO.rf h2 hg fr
