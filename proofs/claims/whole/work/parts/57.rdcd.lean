/-! the reference: decode, fingerprint -/
set_option maxHeartbeats 1000000 in
theorem k_decode {M0 : pM} {z d : Nat} {k : kk}  (hR : RM M0 d k)  : RK I_X9_decode yX9_decode d [] M0 z (oDecode k) := by
  obtain ⟨σ, hs, x⟩ := k
  obtain ⟨g, gp, e, co, ec, cd, wr, tc, mo, tk, fm, ex, m_d, m_v, hf, hG, ⟨ga, m_as⟩, m_pa, hh, h, hx, hm, hg, ⟨gt, m_to⟩, ⟨gf, m_fo⟩⟩ := id hR
  try dsimp only at m_d hf hG hh h hx
  obtain ⟨⟨f0, f1, f2, f3⟩, hv, hvr⟩ := id hf
  obtain ⟨⟨r5, r6, r7, r8, r9⟩, ⟨l1, l2, l3⟩, hcb, hab, hrb⟩ := id hvr
  have hS : okS (g 0) (g 1) (g 2) (g 3) := by rw [f0, f1, f2, f3]; exact hG.1
  have hxl := h.len
  have hl4 := hh.1
  have fr : Off M0 M0 d (d + 9) := Off.rf
  have hdr : 0 ≤ (drun (sO σ) (sX σ) (sS σ) (sL σ) (sC σ) 201 (sT σ) [] (dbeg (sC σ))).1 ∧ (drun (sO σ) (sX σ) (sS σ) (sL σ) (sC σ) 201 (sT σ) [] (dbeg (sC σ))).1 ≤ 3 := drun_rng _ _ _ _
  unfold oDecode pushed dres
  try dsimp only
  refine C.intro (pl := [some (.ref d), none, none]) pn_X9 rfl (fun h => absurd h (by decide)) rfl (Nat.le_of_ble_eq_true rfl) rfl ?_
  have lp : ∀ (ys : List Int) (co2 ec2 cd2 wr2 tc2 mo2 tk2 : Int) (ga2 gp2 gt2 gb g3 : Nat → Int) (ex2 : Nat → Bool), okX ys → ys.length ≤ 200 → VP gb σ → VM g3 (crun (sO σ) (sX σ) (sS σ) (sL σ) ys (sT σ) (ys.length + 1)).1 → g3 9 = (ys.length : Int) → (∀ x, x < 4 ∨ (4 < x ∧ x < 9) ∨ 24260 ≤ x → g3 x = gb x) → ∀ (u j : Nat) (M : pM) (g1 : Nat → Int), j + u = 200 → (∀ i, i < j → i < ys.length → g1 (25480 + i) = ys.getD i 0 + 32) → (∀ x, (x < 25480 ∨ 25680 ≤ x) → g1 x = g3 x) → M d = some (ro d ((hpush hs σ).length : Int) (x.length : Int) (cend (sO σ) (sX σ) (sS σ) (sL σ) ys (sT σ)).1 (cend (sO σ) (sX σ) (sS σ) (sL σ) ys (sT σ)).2.1 ((cend (sO σ) (sX σ) (sS σ) (sL σ) ys (sT σ)).2.2.1.length : Int) (cend (sO σ) (sX σ) (sS σ) (sL σ) ys (sT σ)).2.2.2 co2 ec2 cd2 wr2 tc2 mo2 tk2 (ys.length : Int)) → M (d + 1) = some (arI 25700 g1) → M (d + 2) = some (arI 25700 ga2) → M (d + 3) = some (arI 102800 gp2) → HP gp2 (hpush hs σ) → Tx M (d + 4) 200 x → Ma M d (cend (sO σ) (sX σ) (sS σ) (sL σ) ys (sT σ)).2.2.1 → Go M d ex2 → M (d + 7) = some (arI 804 gt2) → Tx M (d + 8) 201 ys → Off M0 M d (d + 9) → G I_X9_decode 0 0 (fun M' z' r' => z' = z ∧ r' = some (vI (ys.length : Int)) ∧ RM M' d ((sO σ, sX σ, sS σ, sL σ, (crun (sO σ) (sX σ) (sS σ) (sL σ) ys (sT σ) (ys.length + 1)).1, sC σ, sA σ, sG σ, ys), hpush hs σ, x) ∧ Off M0 M' d (d + 9)) 0 0 97 [some (.ref d), some (vI 0), some (vI (j : Int))] [] M z := by
    intro ys co2 ec2 cd2 wr2 tc2 mo2 tk2 ga2 gp2 gt2 gb g3 ex2 hyx hyl hfb hv3 h39 eo u
    have hcr := crun_ok hG.1 hyx hG.2.1 (ys.length + 1) (Nat.le_refl _)
    obtain ⟨⟨k0, k1, k2, k3⟩, -, ⟨q5, q6, q7, q8, q9⟩, -, qcb, qab, -⟩ := hfb
    induction u with
    | zero =>
      intro j M g1 hj h1 h2 m_d m_v m_as m_pa hh2 h hm hg m_to hfo fr
      have e1 : j = 200 := by omega
      subst e1
      obtain ⟨gf2, m_fo, -, -, -⟩ := id hfo
      have hfin : VP g1 (sO σ, sX σ, sS σ, sL σ, (crun (sO σ) (sX σ) (sS σ) (sL σ) ys (sT σ) (ys.length + 1)).1, sC σ, sA σ, sG σ, ys) := by
        refine ⟨⟨by rw [h2 0 (by omega), eo 0 (by omega)]; exact k0, by rw [h2 1 (by omega), eo 1 (by omega)]; exact k1, by rw [h2 2 (by omega), eo 2 (by omega)]; exact k2, by rw [h2 3 (by omega), eo 3 (by omega)]; exact k3⟩, hv3.by_ (fun x hx => h2 x (by omega)), ⟨by rw [h2 5 (by omega), eo 5 (by omega)]; exact q5, by rw [h2 6 (by omega), eo 6 (by omega)]; exact q6, by rw [h2 7 (by omega), eo 7 (by omega)]; exact q7, by rw [h2 8 (by omega), eo 8 (by omega)]; exact q8, by rw [h2 9 (by omega)]; exact h39⟩, ⟨l1, l2, hyl⟩, fun k hk => ?_, fun k hk => ?_, fun k hk => ?_⟩
        · have hk3 : k < (sC σ).length := hk
          rw [h2 _ (by omega), eo _ (by omega)]
          exact qcb k hk3
        · have hk3 : k < (sA σ).length := hk
          obtain ⟨u0, u1, u2, u3⟩ := qab k hk3
          exact ⟨by rw [h2 _ (by omega), eo _ (by omega)]; exact u0, by rw [h2 _ (by omega), eo _ (by omega)]; exact u1, by rw [h2 _ (by omega), eo _ (by omega)]; exact u2, by rw [h2 _ (by omega), eo _ (by omega)]; exact u3⟩
        · have hk3 : k < ys.length := hk
          exact h1 k (by omega) hk3
      refine g_iload_n dX9_decode_97 rfl ?_
      refine z_sipush dX9_decode_98 (by decide +kernel) ?_
      refine z_icmp_ge (tgt := 138) dX9_decode_101 (by decide) (by omega) (by omega) (fun c101 => ?_) (fun c101 => absurd c101 (by omega))
      refine g_aload_n dX9_decode_138 rfl ?_
      refine z_getf fl_X9_196 dX9_decode_139 m_d rfl ?_
      exact g_ireturn dX9_decode_142 rfl (Nat.le_of_ble_eq_true rfl) (Nat.le_of_ble_eq_true rfl) ⟨rfl, rfl, ⟨_, _, (cend (sO σ) (sX σ) (sS σ) (sL σ) ys (sT σ)), _, _, _, _, _, _, _, _, _, m_d, m_v, hfin, ⟨hG.1, hcr.1, hG.2.2.1, hyx, hG.2.2.2.2⟩, ⟨_, m_as⟩, m_pa, hh2, h, hx, hm, hg, ⟨_, m_to⟩, ⟨_, m_fo⟩⟩, fr⟩
    | succ u ih =>
      intro j M g1 hj h1 h2 m_d m_v m_as m_pa hh2 h hm hg m_to hfo fr
      obtain ⟨gf2, m_fo, hf1, hf2, hf3⟩ := id hfo
      refine g_iload_n dX9_decode_97 rfl ?_
      refine z_sipush dX9_decode_98 (by decide +kernel) ?_
      refine z_icmp_ge (tgt := 138) dX9_decode_101 (by decide) (by omega) (by omega) (fun c101 => absurd c101 (by omega)) (fun c101 => ?_)
      refine g_aload_n dX9_decode_104 rfl ?_
      refine z_getf fl_X9_7 dX9_decode_105 m_d rfl ?_
      refine z_sipush dX9_decode_108 (by decide +kernel) ?_
      refine g_iload_n dX9_decode_111 rfl ?_
      refine z_iadd dX9_decode_112 ?_
      refine g_iload_n dX9_decode_113 rfl ?_
      refine g_aload_n dX9_decode_114 rfl ?_
      refine z_getf fl_X9_196 dX9_decode_115 m_d rfl ?_
      refine z_icmp_ge (tgt := 130) dX9_decode_118 (by decide) (by omega) (by omega) (fun c118 => ?_) (fun c118 => ?_)
      · refine z_iconst dX9_decode_130 ?_
        refine z_iastore (j := 25480 + j) dX9_decode_131 m_v (by omega) (by omega) (by omega) (fun M m_v o => ?_)
        have m_d := (o _ (by omega)).trans m_d
        have m_fo := (o _ (by omega)).trans m_fo
        have hfo := hfo.by_ (o _ (by omega))
        have m_as := (o _ (by omega)).trans m_as
        have m_pa := (o _ (by omega)).trans m_pa
        have h := h.by_ (o _ (by omega))
        have hm := hm.by_ (o _ (by omega))
        have hg := hg.by_ (o _ (by omega))
        have m_to := (o _ (by omega)).trans m_to
        have fr : Off M0 M d (d + 9) := fun x hx => (o x (by omega)).trans (fr x hx)
        refine z_iinc dX9_decode_132 rfl (Nat.le_of_ble_eq_true rfl) ?_
        refine g_goto (tgt := 97) dX9_decode_135 (by decide) ?_
        refine ih (j + 1) M _ (by omega) (fun i hi hi2 => ?_) (fun x hx => by rw [upZ_n (by omega)]; exact h2 x hx) m_d m_v m_as m_pa hh2 h hm hg m_to hfo fr
        by_cases q : i = j
        · subst q
          rw [upZ_s]
          first
          | exact hf3 i hi2
          | (exfalso; omega)
        · rw [upZ_n (by omega)]; exact h1 i (by omega) hi2
      · refine g_aload_n dX9_decode_121 rfl ?_
        refine z_getf fl_X9_33 dX9_decode_122 m_d rfl ?_
        refine g_iload_n dX9_decode_125 rfl ?_
        refine z_iaload (j := j) dX9_decode_126 m_fo rfl (by omega) (by omega) ?_
        refine g_goto (tgt := 131) dX9_decode_127 (by decide) ?_
        refine z_iastore (j := 25480 + j) dX9_decode_131 m_v (by omega) (by omega) (by omega) (fun M m_v o => ?_)
        have m_d := (o _ (by omega)).trans m_d
        have m_fo := (o _ (by omega)).trans m_fo
        have hfo := hfo.by_ (o _ (by omega))
        have m_as := (o _ (by omega)).trans m_as
        have m_pa := (o _ (by omega)).trans m_pa
        have h := h.by_ (o _ (by omega))
        have hm := hm.by_ (o _ (by omega))
        have hg := hg.by_ (o _ (by omega))
        have m_to := (o _ (by omega)).trans m_to
        have fr : Off M0 M d (d + 9) := fun x hx => (o x (by omega)).trans (fr x hx)
        refine z_iinc dX9_decode_132 rfl (Nat.le_of_ble_eq_true rfl) ?_
        refine g_goto (tgt := 97) dX9_decode_135 (by decide) ?_
        refine ih (j + 1) M _ (by omega) (fun i hi hi2 => ?_) (fun x hx => by rw [upZ_n (by omega)]; exact h2 x hx) m_d m_v m_as m_pa hh2 h hm hg m_to hfo fr
        by_cases q : i = j
        · subst q
          rw [upZ_s]
          first
          | exact hf3 i hi2
          | (exfalso; omega)
        · rw [upZ_n (by omega)]; exact h1 i (by omega) hi2

  by_cases h0 : (drun (sO σ) (sX σ) (sS σ) (sL σ) (sC σ) 201 (sT σ) [] (dbeg (sC σ))).1 = 0
  · rw [if_pos h0]
    by_cases hq : (cend (sO σ) (sX σ) (sS σ) (sL σ) (drun (sO σ) (sX σ) (sS σ) (sL σ) (sC σ) 201 (sT σ) [] (dbeg (sC σ))).2.2 (sT σ)).2.2.1 = sC σ
    · rw [if_pos hq]
      refine g_aload_n dX9_decode_0 rfl ?_
      refine z_getf fl_X9_7 dX9_decode_1 m_d rfl ?_
      refine g_aload_n dX9_decode_4 rfl ?_
      refine z_getf fl_X9_13 dX9_decode_5 m_d rfl ?_
      refine z_callSV dX9_decode_8 lm_X9_172 lk_X9_copies (r_copies m_v m_as (by omega)) rfl rfl (mkRoom rfl rfl) (Nat.le_of_ble_eq_true rfl) (Nat.le_of_ble_eq_true rfl) (Nat.le_of_ble_eq_true rfl) (fun M r hp => ?_)
      obtain ⟨rfl, ⟨ga2, m_as, hga⟩, o1⟩ := hp
      have m_d := (o1 _ (by omega)).trans m_d
      have m_v := (o1 _ (by omega)).trans m_v
      have m_pa := (o1 _ (by omega)).trans m_pa
      have h := h.by_ (o1 _ (by omega))
      have hm := hm.by_ (o1 _ (by omega))
      have hg := hg.by_ (o1 _ (by omega))
      have m_to := (o1 _ (by omega)).trans m_to
      have m_fo := (o1 _ (by omega)).trans m_fo
      have fr : Off M0 M d (d + 9) := fun x hx => (o1 x (by omega)).trans (fr x hx)
      have hfa : VP ga2 σ := hf.by_ hga
      refine g_aload_n dX9_decode_11 rfl ?_
      refine z_callVV dX9_decode_12 lm_X9_202 lk_X9_decodesAll (r_decodesAll m_d m_v hv hG.2.1 hS hg ⟨r5, l1, hcb⟩ hG.2.2.1 m_fo) rfl rfl m_d rfl (mkRoom rfl rfl) (Nat.le_of_ble_eq_true rfl) (Nat.le_of_ble_eq_true rfl) (Nat.le_of_ble_eq_true rfl) (fun M r hp => ?_)
      rw [f0, f1, f2, f3] at hp
      obtain ⟨rfl, ys, ⟨ra2, co2, ec2, cd2, mo2, tk2, m_d⟩, ⟨g9, m_v⟩, ⟨ex2, hg⟩, hfo, hyx, hyl, hz, o1⟩ := hp
      have m_as := (o1 _ (by omega)).trans m_as
      have m_pa := (o1 _ (by omega)).trans m_pa
      have h := h.by_ (o1 _ (by omega))
      have hm := hm.by_ (o1 _ (by omega))
      have m_to := (o1 _ (by omega)).trans m_to
      have fr : Off M0 M d (d + 9) := fun x hx => (o1 x (by omega)).trans (fr x hx)
      refine g_istore_n dX9_decode_15 rfl (Nat.le_of_ble_eq_true rfl) ?_
      have hz0 := hz h0
      rw [← hz0] at hq
      try rw [← hz0]
      refine g_aload_n dX9_decode_16 rfl ?_
      refine z_getf fl_X9_13 dX9_decode_17 m_d rfl ?_
      refine g_aload_n dX9_decode_20 rfl ?_
      refine z_getf fl_X9_7 dX9_decode_21 m_d rfl ?_
      refine z_callSV dX9_decode_24 lm_X9_172 lk_X9_copies (r_copies m_as m_v (by omega)) rfl rfl (mkRoom rfl rfl) (Nat.le_of_ble_eq_true rfl) (Nat.le_of_ble_eq_true rfl) (Nat.le_of_ble_eq_true rfl) (fun M r hp => ?_)
      obtain ⟨rfl, ⟨gb, m_v, hgb⟩, o1⟩ := hp
      have m_d := (o1 _ (by omega)).trans m_d
      have m_as := (o1 _ (by omega)).trans m_as
      have m_pa := (o1 _ (by omega)).trans m_pa
      have h := h.by_ (o1 _ (by omega))
      have hm := hm.by_ (o1 _ (by omega))
      have hg := hg.by_ (o1 _ (by omega))
      have m_to := (o1 _ (by omega)).trans m_to
      have hfo := hfo.by_ (o1 _ (by omega))
      have fr : Off M0 M d (d + 9) := fun x hx => (o1 x (by omega)).trans (fr x hx)
      have hfb : VP gb σ := hfa.by_ hgb
      refine g_iload_n dX9_decode_27 rfl ?_
      refine z_if_ne (tgt := 56) dX9_decode_28 (by decide) (by omega) (fun c28 => absurd c28 (by omega)) (fun c28 => ?_)
      have hSb : okS (gb 0) (gb 1) (gb 2) (gb 3) := by rw [hfb.1.1, hfb.1.2.1, hfb.1.2.2.1, hfb.1.2.2.2]; exact hG.1
      have hce := cend_ok (stp := sS σ) (lim := sL σ) hG.1 hyx hyl hG.2.1
      refine g_aload_n dX9_decode_31 rfl ?_
      refine g_aload_n dX9_decode_32 rfl ?_
      refine z_getf fl_X9_33 dX9_decode_33 m_d rfl ?_
      refine g_aload_n dX9_decode_36 rfl ?_
      refine z_getf fl_X9_196 dX9_decode_37 m_d rfl ?_
      refine z_callVV dX9_decode_40 lm_X9_176 lk_X9_codesAll (r_codesAll (e := (e.1, ra2, e.2.2.1, e.2.2.2)) m_d m_v hfb.2.1 hG.2.1 hSb hfo (by omega) hyx hyl hg hm m_to) rfl rfl m_d rfl (mkRoom rfl rfl) (Nat.le_of_ble_eq_true rfl) (Nat.le_of_ble_eq_true rfl) (Nat.le_of_ble_eq_true rfl) (fun M r hp => ?_)
      rw [hfb.1.1, hfb.1.2.1, hfb.1.2.2.1, hfb.1.2.2.2] at hp
      obtain ⟨rfl, ⟨co3, ec3, cd3, wr3, m_d⟩, ⟨g2, m_v, hv2, ho2⟩, hm, ⟨ex3, hg⟩, ⟨gt2, m_to, hto⟩, o1⟩ := hp
      have m_as := (o1 _ (by omega)).trans m_as
      have m_pa := (o1 _ (by omega)).trans m_pa
      have h := h.by_ (o1 _ (by omega))
      have hfo := hfo.by_ (o1 _ (by omega))
      have fr : Off M0 M d (d + 9) := fun x hx => (o1 x (by omega)).trans (fr x hx)
      refine g_aload_n dX9_decode_43 rfl ?_
      refine z_callVR dX9_decode_44 lm_X9_205 lk_X9_isCode ((r_isCode m_d m_v hm (CB.by_ ⟨hfb.2.2.1.1, l1, hfb.2.2.2.2.1⟩ ho2) hG.2.2.1 hce.1).eq (by rw [if_pos hq])) rfl rfl m_d rfl (mkRoom rfl rfl) (Nat.le_of_ble_eq_true rfl) (Nat.le_of_ble_eq_true rfl) (Nat.le_of_ble_eq_true rfl) ?_
      refine z_if_eq (tgt := 54) dX9_decode_47 (by decide) (by omega) (fun c47 => absurd c47 (by omega)) (fun c47 => ?_)
      refine z_iconst dX9_decode_50 ?_
      refine g_goto (tgt := 55) dX9_decode_51 (by decide) ?_
      refine g_istore_n dX9_decode_55 rfl (Nat.le_of_ble_eq_true rfl) ?_
      refine g_iload_n dX9_decode_56 rfl ?_
      refine z_if_eq (tgt := 76) dX9_decode_57 (by decide) (by omega) (fun c57 => ?_) (fun c57 => absurd c57 (by omega))
      refine g_aload_n dX9_decode_76 rfl ?_
      refine g_aload_n dX9_decode_77 rfl ?_
      refine z_getf fl_X9_13 dX9_decode_78 m_d rfl ?_
      refine z_callVV dX9_decode_81 lm_X9_41 lk_X9_keeps (r_keeps m_as (by omega) hfa m_d m_pa hh hG) rfl rfl m_d rfl (mkRoom rfl rfl) (Nat.le_of_ble_eq_true rfl) (Nat.le_of_ble_eq_true rfl) (Nat.le_of_ble_eq_true rfl) (fun M r hp => ?_)
      obtain ⟨rfl, m_d, ⟨gp2, m_pa, hh2⟩, o1⟩ := hp
      have m_v := (o1 _ (by omega)).trans m_v
      have m_as := (o1 _ (by omega)).trans m_as
      have h := h.by_ (o1 _ (by omega))
      have hm := hm.by_ (o1 _ (by omega))
      have hg := hg.by_ (o1 _ (by omega))
      have m_to := (o1 _ (by omega)).trans m_to
      have hfo := hfo.by_ (o1 _ (by omega))
      have fr : Off M0 M d (d + 9) := fun x hx => (o1 x (by omega)).trans (fr x hx)
      refine g_aload_n dX9_decode_84 rfl ?_
      refine z_getf fl_X9_7 dX9_decode_85 m_d rfl ?_
      refine z_bipush dX9_decode_88 (by decide +kernel) ?_
      refine g_aload_n dX9_decode_90 rfl ?_
      refine z_getf fl_X9_196 dX9_decode_91 m_d rfl ?_
      refine z_iastore (j := 9) dX9_decode_94 m_v (by omega) (by omega) (by omega) (fun M m_v o => ?_)
      have m_d := (o _ (by omega)).trans m_d
      have m_as := (o _ (by omega)).trans m_as
      have m_pa := (o _ (by omega)).trans m_pa
      have h := h.by_ (o _ (by omega))
      have hm := hm.by_ (o _ (by omega))
      have hg := hg.by_ (o _ (by omega))
      have m_to := (o _ (by omega)).trans m_to
      have hfo := hfo.by_ (o _ (by omega))
      have fr : Off M0 M d (d + 9) := fun x hx => (o x (by omega)).trans (fr x hx)
      refine z_iconst dX9_decode_95 ?_
      refine g_istore_n dX9_decode_96 rfl (Nat.le_of_ble_eq_true rfl) ?_
      exact lp ys co3 ec3 cd3 wr3 _ mo2 tk2 ga2 gp2 gt2 gb _ ex3 hyx hyl hfb (hv2.by_ (fun x hx => upZ_n (by omega))) upZ_s (fun x hx => by rw [upZ_n (by omega)]; exact ho2 x (by omega)) 200 0 M _ (by omega) (fun i hi => absurd hi (Nat.not_lt_zero _)) (fun x hx => rfl) m_d m_v m_as m_pa hh2 h hm hg m_to hfo fr
    · rw [if_neg hq]
      refine g_aload_n dX9_decode_0 rfl ?_
      refine z_getf fl_X9_7 dX9_decode_1 m_d rfl ?_
      refine g_aload_n dX9_decode_4 rfl ?_
      refine z_getf fl_X9_13 dX9_decode_5 m_d rfl ?_
      refine z_callSV dX9_decode_8 lm_X9_172 lk_X9_copies (r_copies m_v m_as (by omega)) rfl rfl (mkRoom rfl rfl) (Nat.le_of_ble_eq_true rfl) (Nat.le_of_ble_eq_true rfl) (Nat.le_of_ble_eq_true rfl) (fun M r hp => ?_)
      obtain ⟨rfl, ⟨ga2, m_as, hga⟩, o1⟩ := hp
      have m_d := (o1 _ (by omega)).trans m_d
      have m_v := (o1 _ (by omega)).trans m_v
      have m_pa := (o1 _ (by omega)).trans m_pa
      have h := h.by_ (o1 _ (by omega))
      have hm := hm.by_ (o1 _ (by omega))
      have hg := hg.by_ (o1 _ (by omega))
      have m_to := (o1 _ (by omega)).trans m_to
      have m_fo := (o1 _ (by omega)).trans m_fo
      have fr : Off M0 M d (d + 9) := fun x hx => (o1 x (by omega)).trans (fr x hx)
      have hfa : VP ga2 σ := hf.by_ hga
      refine g_aload_n dX9_decode_11 rfl ?_
      refine z_callVV dX9_decode_12 lm_X9_202 lk_X9_decodesAll (r_decodesAll m_d m_v hv hG.2.1 hS hg ⟨r5, l1, hcb⟩ hG.2.2.1 m_fo) rfl rfl m_d rfl (mkRoom rfl rfl) (Nat.le_of_ble_eq_true rfl) (Nat.le_of_ble_eq_true rfl) (Nat.le_of_ble_eq_true rfl) (fun M r hp => ?_)
      rw [f0, f1, f2, f3] at hp
      obtain ⟨rfl, ys, ⟨ra2, co2, ec2, cd2, mo2, tk2, m_d⟩, ⟨g9, m_v⟩, ⟨ex2, hg⟩, hfo, hyx, hyl, hz, o1⟩ := hp
      have m_as := (o1 _ (by omega)).trans m_as
      have m_pa := (o1 _ (by omega)).trans m_pa
      have h := h.by_ (o1 _ (by omega))
      have hm := hm.by_ (o1 _ (by omega))
      have m_to := (o1 _ (by omega)).trans m_to
      have fr : Off M0 M d (d + 9) := fun x hx => (o1 x (by omega)).trans (fr x hx)
      refine g_istore_n dX9_decode_15 rfl (Nat.le_of_ble_eq_true rfl) ?_
      have hz0 := hz h0
      rw [← hz0] at hq
      try rw [← hz0]
      refine g_aload_n dX9_decode_16 rfl ?_
      refine z_getf fl_X9_13 dX9_decode_17 m_d rfl ?_
      refine g_aload_n dX9_decode_20 rfl ?_
      refine z_getf fl_X9_7 dX9_decode_21 m_d rfl ?_
      refine z_callSV dX9_decode_24 lm_X9_172 lk_X9_copies (r_copies m_as m_v (by omega)) rfl rfl (mkRoom rfl rfl) (Nat.le_of_ble_eq_true rfl) (Nat.le_of_ble_eq_true rfl) (Nat.le_of_ble_eq_true rfl) (fun M r hp => ?_)
      obtain ⟨rfl, ⟨gb, m_v, hgb⟩, o1⟩ := hp
      have m_d := (o1 _ (by omega)).trans m_d
      have m_as := (o1 _ (by omega)).trans m_as
      have m_pa := (o1 _ (by omega)).trans m_pa
      have h := h.by_ (o1 _ (by omega))
      have hm := hm.by_ (o1 _ (by omega))
      have hg := hg.by_ (o1 _ (by omega))
      have m_to := (o1 _ (by omega)).trans m_to
      have hfo := hfo.by_ (o1 _ (by omega))
      have fr : Off M0 M d (d + 9) := fun x hx => (o1 x (by omega)).trans (fr x hx)
      have hfb : VP gb σ := hfa.by_ hgb
      refine g_iload_n dX9_decode_27 rfl ?_
      refine z_if_ne (tgt := 56) dX9_decode_28 (by decide) (by omega) (fun c28 => absurd c28 (by omega)) (fun c28 => ?_)
      have hSb : okS (gb 0) (gb 1) (gb 2) (gb 3) := by rw [hfb.1.1, hfb.1.2.1, hfb.1.2.2.1, hfb.1.2.2.2]; exact hG.1
      have hce := cend_ok (stp := sS σ) (lim := sL σ) hG.1 hyx hyl hG.2.1
      refine g_aload_n dX9_decode_31 rfl ?_
      refine g_aload_n dX9_decode_32 rfl ?_
      refine z_getf fl_X9_33 dX9_decode_33 m_d rfl ?_
      refine g_aload_n dX9_decode_36 rfl ?_
      refine z_getf fl_X9_196 dX9_decode_37 m_d rfl ?_
      refine z_callVV dX9_decode_40 lm_X9_176 lk_X9_codesAll (r_codesAll (e := (e.1, ra2, e.2.2.1, e.2.2.2)) m_d m_v hfb.2.1 hG.2.1 hSb hfo (by omega) hyx hyl hg hm m_to) rfl rfl m_d rfl (mkRoom rfl rfl) (Nat.le_of_ble_eq_true rfl) (Nat.le_of_ble_eq_true rfl) (Nat.le_of_ble_eq_true rfl) (fun M r hp => ?_)
      rw [hfb.1.1, hfb.1.2.1, hfb.1.2.2.1, hfb.1.2.2.2] at hp
      obtain ⟨rfl, ⟨co3, ec3, cd3, wr3, m_d⟩, ⟨g2, m_v, hv2, ho2⟩, hm, ⟨ex3, hg⟩, ⟨gt2, m_to, hto⟩, o1⟩ := hp
      have m_as := (o1 _ (by omega)).trans m_as
      have m_pa := (o1 _ (by omega)).trans m_pa
      have h := h.by_ (o1 _ (by omega))
      have hfo := hfo.by_ (o1 _ (by omega))
      have fr : Off M0 M d (d + 9) := fun x hx => (o1 x (by omega)).trans (fr x hx)
      refine g_aload_n dX9_decode_43 rfl ?_
      refine z_callVR dX9_decode_44 lm_X9_205 lk_X9_isCode ((r_isCode m_d m_v hm (CB.by_ ⟨hfb.2.2.1.1, l1, hfb.2.2.2.2.1⟩ ho2) hG.2.2.1 hce.1).eq (by rw [if_neg hq])) rfl rfl m_d rfl (mkRoom rfl rfl) (Nat.le_of_ble_eq_true rfl) (Nat.le_of_ble_eq_true rfl) (Nat.le_of_ble_eq_true rfl) ?_
      refine z_if_eq (tgt := 54) dX9_decode_47 (by decide) (by omega) (fun c47 => ?_) (fun c47 => absurd c47 (by omega))
      refine z_iconst dX9_decode_54 ?_
      refine g_istore_n dX9_decode_55 rfl (Nat.le_of_ble_eq_true rfl) ?_
      refine g_iload_n dX9_decode_56 rfl ?_
      refine z_if_eq (tgt := 76) dX9_decode_57 (by decide) (by omega) (fun c57 => absurd c57 (by omega)) (fun c57 => ?_)
      refine g_aload_n dX9_decode_60 rfl ?_
      refine z_getf fl_X9_13 dX9_decode_61 m_d rfl ?_
      refine g_aload_n dX9_decode_64 rfl ?_
      refine z_getf fl_X9_7 dX9_decode_65 m_d rfl ?_
      refine z_callSV dX9_decode_68 lm_X9_172 lk_X9_copies (r_copies m_as m_v (by omega)) rfl rfl (mkRoom rfl rfl) (Nat.le_of_ble_eq_true rfl) (Nat.le_of_ble_eq_true rfl) (Nat.le_of_ble_eq_true rfl) (fun M r hp => ?_)
      obtain ⟨rfl, ⟨gc, m_v, hgc⟩, o1⟩ := hp
      have m_d := (o1 _ (by omega)).trans m_d
      have m_as := (o1 _ (by omega)).trans m_as
      have m_pa := (o1 _ (by omega)).trans m_pa
      have h := h.by_ (o1 _ (by omega))
      have hm := hm.by_ (o1 _ (by omega))
      have hg := hg.by_ (o1 _ (by omega))
      have m_to := (o1 _ (by omega)).trans m_to
      have hfo := hfo.by_ (o1 _ (by omega))
      have fr : Off M0 M d (d + 9) := fun x hx => (o1 x (by omega)).trans (fr x hx)
      have hfc : VP gc σ := hfa.by_ hgc
      refine z_bipush dX9_decode_71 (by decide +kernel) ?_
      refine g_iload_n dX9_decode_73 rfl ?_
      refine z_isub dX9_decode_74 ?_
      exact g_ireturn dX9_decode_75 rfl (Nat.le_of_ble_eq_true rfl) (Nat.le_of_ble_eq_true rfl) ⟨rfl, rfl, ⟨_, _, (cend (sO σ) (sX σ) (sS σ) (sL σ) ys (sT σ)), _, _, _, _, _, _, _, _, _, m_d, m_v, hfc, hG, ⟨_, m_as⟩, m_pa, hh, h, hx, hm, hg, ⟨_, m_to⟩, ⟨_, hfo.choose_spec.1⟩⟩, fr⟩
  · rw [if_neg h0]
    refine g_aload_n dX9_decode_0 rfl ?_
    refine z_getf fl_X9_7 dX9_decode_1 m_d rfl ?_
    refine g_aload_n dX9_decode_4 rfl ?_
    refine z_getf fl_X9_13 dX9_decode_5 m_d rfl ?_
    refine z_callSV dX9_decode_8 lm_X9_172 lk_X9_copies (r_copies m_v m_as (by omega)) rfl rfl (mkRoom rfl rfl) (Nat.le_of_ble_eq_true rfl) (Nat.le_of_ble_eq_true rfl) (Nat.le_of_ble_eq_true rfl) (fun M r hp => ?_)
    obtain ⟨rfl, ⟨ga2, m_as, hga⟩, o1⟩ := hp
    have m_d := (o1 _ (by omega)).trans m_d
    have m_v := (o1 _ (by omega)).trans m_v
    have m_pa := (o1 _ (by omega)).trans m_pa
    have h := h.by_ (o1 _ (by omega))
    have hm := hm.by_ (o1 _ (by omega))
    have hg := hg.by_ (o1 _ (by omega))
    have m_to := (o1 _ (by omega)).trans m_to
    have m_fo := (o1 _ (by omega)).trans m_fo
    have fr : Off M0 M d (d + 9) := fun x hx => (o1 x (by omega)).trans (fr x hx)
    have hfa : VP ga2 σ := hf.by_ hga
    refine g_aload_n dX9_decode_11 rfl ?_
    refine z_callVV dX9_decode_12 lm_X9_202 lk_X9_decodesAll (r_decodesAll m_d m_v hv hG.2.1 hS hg ⟨r5, l1, hcb⟩ hG.2.2.1 m_fo) rfl rfl m_d rfl (mkRoom rfl rfl) (Nat.le_of_ble_eq_true rfl) (Nat.le_of_ble_eq_true rfl) (Nat.le_of_ble_eq_true rfl) (fun M r hp => ?_)
    rw [f0, f1, f2, f3] at hp
    obtain ⟨rfl, ys, ⟨ra2, co2, ec2, cd2, mo2, tk2, m_d⟩, ⟨g9, m_v⟩, ⟨ex2, hg⟩, hfo, hyx, hyl, hz, o1⟩ := hp
    have m_as := (o1 _ (by omega)).trans m_as
    have m_pa := (o1 _ (by omega)).trans m_pa
    have h := h.by_ (o1 _ (by omega))
    have hm := hm.by_ (o1 _ (by omega))
    have m_to := (o1 _ (by omega)).trans m_to
    have fr : Off M0 M d (d + 9) := fun x hx => (o1 x (by omega)).trans (fr x hx)
    refine g_istore_n dX9_decode_15 rfl (Nat.le_of_ble_eq_true rfl) ?_
    refine g_aload_n dX9_decode_16 rfl ?_
    refine z_getf fl_X9_13 dX9_decode_17 m_d rfl ?_
    refine g_aload_n dX9_decode_20 rfl ?_
    refine z_getf fl_X9_7 dX9_decode_21 m_d rfl ?_
    refine z_callSV dX9_decode_24 lm_X9_172 lk_X9_copies (r_copies m_as m_v (by omega)) rfl rfl (mkRoom rfl rfl) (Nat.le_of_ble_eq_true rfl) (Nat.le_of_ble_eq_true rfl) (Nat.le_of_ble_eq_true rfl) (fun M r hp => ?_)
    obtain ⟨rfl, ⟨gb, m_v, hgb⟩, o1⟩ := hp
    have m_d := (o1 _ (by omega)).trans m_d
    have m_as := (o1 _ (by omega)).trans m_as
    have m_pa := (o1 _ (by omega)).trans m_pa
    have h := h.by_ (o1 _ (by omega))
    have hm := hm.by_ (o1 _ (by omega))
    have hg := hg.by_ (o1 _ (by omega))
    have m_to := (o1 _ (by omega)).trans m_to
    have hfo := hfo.by_ (o1 _ (by omega))
    have fr : Off M0 M d (d + 9) := fun x hx => (o1 x (by omega)).trans (fr x hx)
    have hfb : VP gb σ := hfa.by_ hgb
    refine g_iload_n dX9_decode_27 rfl ?_
    refine z_if_ne (tgt := 56) dX9_decode_28 (by decide) (by omega) (fun c28 => ?_) (fun c28 => absurd c28 (by omega))
    refine g_iload_n dX9_decode_56 rfl ?_
    refine z_if_eq (tgt := 76) dX9_decode_57 (by decide) (by omega) (fun c57 => absurd c57 (by omega)) (fun c57 => ?_)
    refine g_aload_n dX9_decode_60 rfl ?_
    refine z_getf fl_X9_13 dX9_decode_61 m_d rfl ?_
    refine g_aload_n dX9_decode_64 rfl ?_
    refine z_getf fl_X9_7 dX9_decode_65 m_d rfl ?_
    refine z_callSV dX9_decode_68 lm_X9_172 lk_X9_copies (r_copies m_as m_v (by omega)) rfl rfl (mkRoom rfl rfl) (Nat.le_of_ble_eq_true rfl) (Nat.le_of_ble_eq_true rfl) (Nat.le_of_ble_eq_true rfl) (fun M r hp => ?_)
    obtain ⟨rfl, ⟨gc, m_v, hgc⟩, o1⟩ := hp
    have m_d := (o1 _ (by omega)).trans m_d
    have m_as := (o1 _ (by omega)).trans m_as
    have m_pa := (o1 _ (by omega)).trans m_pa
    have h := h.by_ (o1 _ (by omega))
    have hm := hm.by_ (o1 _ (by omega))
    have hg := hg.by_ (o1 _ (by omega))
    have m_to := (o1 _ (by omega)).trans m_to
    have hfo := hfo.by_ (o1 _ (by omega))
    have fr : Off M0 M d (d + 9) := fun x hx => (o1 x (by omega)).trans (fr x hx)
    have hfc : VP gc σ := hfa.by_ hgc
    refine z_bipush dX9_decode_71 (by decide +kernel) ?_
    refine g_iload_n dX9_decode_73 rfl ?_
    refine z_isub dX9_decode_74 ?_
    exact g_ireturn dX9_decode_75 rfl (Nat.le_of_ble_eq_true rfl) (Nat.le_of_ble_eq_true rfl) ⟨rfl, rfl, ⟨_, _, (e.1, ra2, e.2.2.1, e.2.2.2), _, _, _, _, _, _, _, _, _, m_d, m_v, hfc, hG, ⟨_, m_as⟩, m_pa, hh, h, hx, hm, hg, ⟨_, m_to⟩, ⟨_, hfo.choose_spec.1⟩⟩, fr⟩
set_option maxHeartbeats 1000000 in
theorem k_fingerprint {M0 : pM} {z d : Nat} {k : kk} (hR : RM M0 d k) : CW I_X9_fingerprint yX9_fingerprint [.ref d] M0 z (fun M' r => r = some (vL (fp3 k.1)) ∧ RM M' d k ∧ Off M0 M' d (d + 9)) := by
  obtain ⟨σ, hs, x⟩ := k
  obtain ⟨g, gp, e, co, ec, cd, wv, tc, mo, tk, fm, ex, m_d, m_v, hf, hG, ⟨ga, m_as⟩, m_pa, hh, h, hx, hm, hg, ⟨gt, m_to⟩, ⟨gf, m_fo⟩⟩ := id hR
  try dsimp only at m_d hf hG hh h hx
  obtain ⟨⟨f0, f1, f2, f3⟩, hv, hvr⟩ := id hf
  obtain ⟨⟨r5, r6, r7, r8, r9⟩, ⟨l1, l2, l3⟩, hcb, hab, hrb⟩ := id hvr
  have hS : okS (g 0) (g 1) (g 2) (g 3) := by rw [f0, f1, f2, f3]; exact hG.1
  have hxl := h.len
  have hl4 := hh.1
  have fr : Off M0 M0 d (d + 9) := Off.rf
  have hs1 := hG.1.1
  have hs2 := hG.1.2.1
  have hs3 := hG.1.2.2.1
  have hs4 := hG.1.2.2.2
  have hT := hG.2.1.1
  have hv0 := hv.1
  have hw := wr_rng ((sA σ).map (fun x => x.1)).sum
  refine C.intro (pl := [some (.ref d), none, none, none]) pn_X9 rfl (fun h => absurd h (by decide)) rfl (Nat.le_of_ble_eq_true rfl) rfl ?_
  have loop2 : ∀ (j i : Nat), i + j = (sR σ).length → G I_X9_fingerprint 0 0 (fun M' z' r' => z' = z ∧ r' = some (vL (fp3 σ)) ∧ RM M' d (σ, hs, x) ∧ Off M0 M' d (d + 9)) 0 0 124 [some (.ref d), some (vL (((sR σ).take i).foldl (fun p b => 31 * p + b + 32) (fp2 σ))), none, some (vI (i : Int))] [] M0 z := by
    intro j
    induction j with
    | zero =>
      intro i hi
      have e : i = (sR σ).length := by omega
      subst e
      refine g_iload_n dX9_fingerprint_124 rfl ?_
      refine g_aload_n dX9_fingerprint_125 rfl ?_
      refine z_getf fl_X9_7 dX9_fingerprint_126 m_d rfl ?_
      refine z_bipush dX9_fingerprint_129 (by decide +kernel) ?_
      refine z_iaload (j := 9) dX9_fingerprint_131 m_v rfl (by omega) (by omega) ?_
      refine z_icmp_ge (tgt := 159) dX9_fingerprint_132 (by decide) (by omega) (by omega) (fun c132 => ?_) (fun c132 => absurd c132 (by omega))
      refine g_lload_n dX9_fingerprint_159 rfl ?_
      exact g_lreturn dX9_fingerprint_160 rfl (Nat.le_of_ble_eq_true rfl) (Nat.le_of_ble_eq_true rfl) ⟨rfl, by rw [List.take_length]; rfl, hR, fr⟩
    | succ j ih =>
      intro i hi
      have ih2 := ih (i + 1) (by omega)
      have hi2 : i < (sR σ).length := by omega
      rw [List.take_succ, List.getElem?_eq_getElem hi2, Option.toList_some, List.foldl_append, List.foldl_cons, List.foldl_nil] at ih2
      have eg : (sR σ).getD i 0 = (sR σ)[i] := by rw [List.getD_eq_getElem?_getD, List.getElem?_eq_getElem hi2]; rfl
      rw [← eg] at ih2
      have hb := hG.2.2.2.1.get i
      have hgi := hrb i hi2
      rw [show 31 * (((sR σ).take i).foldl (fun p b => 31 * p + b + 32) (fp2 σ)) + (sR σ).getD i 0 + 32 = 31 * (((sR σ).take i).foldl (fun p b => 31 * p + b + 32) (fp2 σ)) + g (25480 + i) by omega] at ih2
      refine g_iload_n dX9_fingerprint_124 rfl ?_
      refine g_aload_n dX9_fingerprint_125 rfl ?_
      refine z_getf fl_X9_7 dX9_fingerprint_126 m_d rfl ?_
      refine z_bipush dX9_fingerprint_129 (by decide +kernel) ?_
      refine z_iaload (j := 9) dX9_fingerprint_131 m_v rfl (by omega) (by omega) ?_
      refine z_icmp_ge (tgt := 159) dX9_fingerprint_132 (by decide) (by omega) (by omega) (fun c132 => absurd c132 (by omega)) (fun c132 => ?_)
      refine z_ldc2 (31) dX9_fingerprint_135 kc_X9_212 rfl ?_
      refine g_lload_n dX9_fingerprint_138 rfl ?_
      refine z_lmul dX9_fingerprint_139 ?_
      refine g_aload_n dX9_fingerprint_140 rfl ?_
      refine z_getf fl_X9_7 dX9_fingerprint_141 m_d rfl ?_
      refine z_sipush dX9_fingerprint_144 (by decide +kernel) ?_
      refine g_iload_n dX9_fingerprint_147 rfl ?_
      refine z_iadd dX9_fingerprint_148 ?_
      refine z_iaload (j := 25480 + i) dX9_fingerprint_149 m_v (by omega) (by omega) (by omega) ?_
      refine z_i2l dX9_fingerprint_150 (by omega) ?_
      refine z_ladd dX9_fingerprint_151 ?_
      refine g_lstore_n dX9_fingerprint_152 rfl (Nat.le_of_ble_eq_true rfl) ?_
      refine z_iinc dX9_fingerprint_153 rfl (Nat.le_of_ble_eq_true rfl) ?_
      refine g_goto (tgt := 124) dX9_fingerprint_156 (by decide) ?_
      exact ih2
  have loop1 : ∀ (j i : Nat), i + j = (sC σ).length → G I_X9_fingerprint 0 0 (fun M' z' r' => z' = z ∧ r' = some (vL (fp3 σ)) ∧ RM M' d (σ, hs, x) ∧ Off M0 M' d (d + 9)) 0 0 47 [some (.ref d), some (vL (((sC σ).take i).foldl (fun p b => 31 * p + b) (fp0 σ))), none, some (vI (i : Int))] [] M0 z := by
    intro j
    induction j with
    | zero =>
      intro i hi
      have e : i = (sC σ).length := by omega
      subst e
      refine g_iload_n dX9_fingerprint_47 rfl ?_
      refine g_aload_n dX9_fingerprint_48 rfl ?_
      refine z_getf fl_X9_7 dX9_fingerprint_49 m_d rfl ?_
      refine z_iconst dX9_fingerprint_52 ?_
      refine z_iaload (j := 5) dX9_fingerprint_53 m_v rfl (by omega) (by omega) ?_
      refine z_icmp_ge (tgt := 81) dX9_fingerprint_54 (by decide) (by omega) (by omega) (fun c54 => ?_) (fun c54 => absurd c54 (by omega))
      refine z_ldc2 (31) dX9_fingerprint_81 kc_X9_212 rfl ?_
      refine z_ldc2 (31) dX9_fingerprint_84 kc_X9_212 rfl ?_
      refine z_ldc2 (31) dX9_fingerprint_87 kc_X9_212 rfl ?_
      refine g_lload_n dX9_fingerprint_90 rfl ?_
      refine z_lmul dX9_fingerprint_91 ?_
      refine g_aload_n dX9_fingerprint_92 rfl ?_
      refine z_getf fl_X9_7 dX9_fingerprint_93 m_d rfl ?_
      refine z_bipush dX9_fingerprint_96 (by decide +kernel) ?_
      refine z_iaload (j := 7) dX9_fingerprint_98 m_v rfl (by omega) (by omega) ?_
      refine z_i2l dX9_fingerprint_99 (by omega) ?_
      refine z_ladd dX9_fingerprint_100 ?_
      refine z_lmul dX9_fingerprint_101 ?_
      refine g_aload_n dX9_fingerprint_102 rfl ?_
      refine z_getf fl_X9_7 dX9_fingerprint_103 m_d rfl ?_
      refine z_bipush dX9_fingerprint_106 (by decide +kernel) ?_
      refine z_iaload (j := 8) dX9_fingerprint_108 m_v rfl (by omega) (by omega) ?_
      refine G.top (v' := vI (wr ((sA σ).map (fun x : ac => x.1)).sum)) (by rw [r8]; exact congrArg Value.int (iZ_wr ((sA σ).map (fun x : ac => x.1)).sum)) ?_
      refine z_i2l dX9_fingerprint_109 (by omega) ?_
      refine z_ladd dX9_fingerprint_110 ?_
      refine z_lmul dX9_fingerprint_111 ?_
      refine g_aload_n dX9_fingerprint_112 rfl ?_
      refine z_getf fl_X9_7 dX9_fingerprint_113 m_d rfl ?_
      refine z_bipush dX9_fingerprint_116 (by decide +kernel) ?_
      refine z_iaload (j := 9) dX9_fingerprint_118 m_v rfl (by omega) (by omega) ?_
      refine z_i2l dX9_fingerprint_119 (by omega) ?_
      refine z_ladd dX9_fingerprint_120 ?_
      refine g_lstore_n dX9_fingerprint_121 rfl (Nat.le_of_ble_eq_true rfl) ?_
      refine z_iconst dX9_fingerprint_122 ?_
      refine g_istore_n dX9_fingerprint_123 rfl (Nat.le_of_ble_eq_true rfl) ?_
      have lp := loop2 (sR σ).length 0 (by omega)
      rw [List.take_zero, List.foldl_nil] at lp
      unfold fp2 fp1 at lp
      rw [List.take_length, r7, r9]
      exact lp
    | succ j ih =>
      intro i hi
      have ih2 := ih (i + 1) (by omega)
      have hi2 : i < (sC σ).length := by omega
      rw [List.take_succ, List.getElem?_eq_getElem hi2, Option.toList_some, List.foldl_append, List.foldl_cons, List.foldl_nil] at ih2
      have eg : (sC σ).getD i 0 = (sC σ)[i] := by rw [List.getD_eq_getElem?_getD, List.getElem?_eq_getElem hi2]; rfl
      rw [← eg] at ih2
      have hb := hG.2.2.1.get i
      have hgi := hcb i hi2
      rw [← hgi] at ih2
      refine g_iload_n dX9_fingerprint_47 rfl ?_
      refine g_aload_n dX9_fingerprint_48 rfl ?_
      refine z_getf fl_X9_7 dX9_fingerprint_49 m_d rfl ?_
      refine z_iconst dX9_fingerprint_52 ?_
      refine z_iaload (j := 5) dX9_fingerprint_53 m_v rfl (by omega) (by omega) ?_
      refine z_icmp_ge (tgt := 81) dX9_fingerprint_54 (by decide) (by omega) (by omega) (fun c54 => absurd c54 (by omega)) (fun c54 => ?_)
      refine z_ldc2 (31) dX9_fingerprint_57 kc_X9_212 rfl ?_
      refine g_lload_n dX9_fingerprint_60 rfl ?_
      refine z_lmul dX9_fingerprint_61 ?_
      refine g_aload_n dX9_fingerprint_62 rfl ?_
      refine z_getf fl_X9_7 dX9_fingerprint_63 m_d rfl ?_
      refine z_sipush dX9_fingerprint_66 (by decide +kernel) ?_
      refine g_iload_n dX9_fingerprint_69 rfl ?_
      refine z_iadd dX9_fingerprint_70 ?_
      refine z_iaload (j := 24260 + i) dX9_fingerprint_71 m_v (by omega) (by omega) (by omega) ?_
      refine z_i2l dX9_fingerprint_72 (by omega) ?_
      refine z_ladd dX9_fingerprint_73 ?_
      refine g_lstore_n dX9_fingerprint_74 rfl (Nat.le_of_ble_eq_true rfl) ?_
      refine z_iinc dX9_fingerprint_75 rfl (Nat.le_of_ble_eq_true rfl) ?_
      refine g_goto (tgt := 47) dX9_fingerprint_78 (by decide) ?_
      exact ih2
  refine z_ldc2 (67) dX9_fingerprint_0 kc_X9_210 rfl ?_
  refine g_lstore_n dX9_fingerprint_3 rfl (Nat.le_of_ble_eq_true rfl) ?_
  refine z_iconst dX9_fingerprint_4 ?_
  refine g_istore_n dX9_fingerprint_5 rfl (Nat.le_of_ble_eq_true rfl) ?_
  refine g_iload_n dX9_fingerprint_6 rfl ?_
  refine z_iconst dX9_fingerprint_7 ?_
  refine z_icmp_gt (tgt := 31) dX9_fingerprint_8 (by decide) (by omega) (by omega) (fun c8 => absurd c8 (by omega)) (fun c8 => ?_)
  refine z_ldc2 (31) dX9_fingerprint_11 kc_X9_212 rfl ?_
  refine g_lload_n dX9_fingerprint_14 rfl ?_
  refine z_lmul dX9_fingerprint_15 ?_
  refine g_aload_n dX9_fingerprint_16 rfl ?_
  refine z_getf fl_X9_7 dX9_fingerprint_17 m_d rfl ?_
  refine g_iload_n dX9_fingerprint_20 rfl ?_
  refine z_iaload (j := 0) dX9_fingerprint_21 m_v (by omega) (by omega) (by omega) ?_
  refine z_i2l dX9_fingerprint_22 (by omega) ?_
  refine z_ladd dX9_fingerprint_23 ?_
  refine g_lstore_n dX9_fingerprint_24 rfl (Nat.le_of_ble_eq_true rfl) ?_
  refine z_iinc dX9_fingerprint_25 rfl (Nat.le_of_ble_eq_true rfl) ?_
  refine g_goto (tgt := 6) dX9_fingerprint_28 (by decide) ?_
  refine g_iload_n dX9_fingerprint_6 rfl ?_
  refine z_iconst dX9_fingerprint_7 ?_
  refine z_icmp_gt (tgt := 31) dX9_fingerprint_8 (by decide) (by omega) (by omega) (fun c8 => absurd c8 (by omega)) (fun c8 => ?_)
  refine z_ldc2 (31) dX9_fingerprint_11 kc_X9_212 rfl ?_
  refine g_lload_n dX9_fingerprint_14 rfl ?_
  refine z_lmul dX9_fingerprint_15 ?_
  refine g_aload_n dX9_fingerprint_16 rfl ?_
  refine z_getf fl_X9_7 dX9_fingerprint_17 m_d rfl ?_
  refine g_iload_n dX9_fingerprint_20 rfl ?_
  refine z_iaload (j := 1) dX9_fingerprint_21 m_v (by omega) (by omega) (by omega) ?_
  refine z_i2l dX9_fingerprint_22 (by omega) ?_
  refine z_ladd dX9_fingerprint_23 ?_
  refine g_lstore_n dX9_fingerprint_24 rfl (Nat.le_of_ble_eq_true rfl) ?_
  refine z_iinc dX9_fingerprint_25 rfl (Nat.le_of_ble_eq_true rfl) ?_
  refine g_goto (tgt := 6) dX9_fingerprint_28 (by decide) ?_
  refine g_iload_n dX9_fingerprint_6 rfl ?_
  refine z_iconst dX9_fingerprint_7 ?_
  refine z_icmp_gt (tgt := 31) dX9_fingerprint_8 (by decide) (by omega) (by omega) (fun c8 => absurd c8 (by omega)) (fun c8 => ?_)
  refine z_ldc2 (31) dX9_fingerprint_11 kc_X9_212 rfl ?_
  refine g_lload_n dX9_fingerprint_14 rfl ?_
  refine z_lmul dX9_fingerprint_15 ?_
  refine g_aload_n dX9_fingerprint_16 rfl ?_
  refine z_getf fl_X9_7 dX9_fingerprint_17 m_d rfl ?_
  refine g_iload_n dX9_fingerprint_20 rfl ?_
  refine z_iaload (j := 2) dX9_fingerprint_21 m_v (by omega) (by omega) (by omega) ?_
  refine z_i2l dX9_fingerprint_22 (by omega) ?_
  refine z_ladd dX9_fingerprint_23 ?_
  refine g_lstore_n dX9_fingerprint_24 rfl (Nat.le_of_ble_eq_true rfl) ?_
  refine z_iinc dX9_fingerprint_25 rfl (Nat.le_of_ble_eq_true rfl) ?_
  refine g_goto (tgt := 6) dX9_fingerprint_28 (by decide) ?_
  refine g_iload_n dX9_fingerprint_6 rfl ?_
  refine z_iconst dX9_fingerprint_7 ?_
  refine z_icmp_gt (tgt := 31) dX9_fingerprint_8 (by decide) (by omega) (by omega) (fun c8 => absurd c8 (by omega)) (fun c8 => ?_)
  refine z_ldc2 (31) dX9_fingerprint_11 kc_X9_212 rfl ?_
  refine g_lload_n dX9_fingerprint_14 rfl ?_
  refine z_lmul dX9_fingerprint_15 ?_
  refine g_aload_n dX9_fingerprint_16 rfl ?_
  refine z_getf fl_X9_7 dX9_fingerprint_17 m_d rfl ?_
  refine g_iload_n dX9_fingerprint_20 rfl ?_
  refine z_iaload (j := 3) dX9_fingerprint_21 m_v (by omega) (by omega) (by omega) ?_
  refine z_i2l dX9_fingerprint_22 (by omega) ?_
  refine z_ladd dX9_fingerprint_23 ?_
  refine g_lstore_n dX9_fingerprint_24 rfl (Nat.le_of_ble_eq_true rfl) ?_
  refine z_iinc dX9_fingerprint_25 rfl (Nat.le_of_ble_eq_true rfl) ?_
  refine g_goto (tgt := 6) dX9_fingerprint_28 (by decide) ?_
  refine g_iload_n dX9_fingerprint_6 rfl ?_
  refine z_iconst dX9_fingerprint_7 ?_
  refine z_icmp_gt (tgt := 31) dX9_fingerprint_8 (by decide) (by omega) (by omega) (fun c8 => absurd c8 (by omega)) (fun c8 => ?_)
  refine z_ldc2 (31) dX9_fingerprint_11 kc_X9_212 rfl ?_
  refine g_lload_n dX9_fingerprint_14 rfl ?_
  refine z_lmul dX9_fingerprint_15 ?_
  refine g_aload_n dX9_fingerprint_16 rfl ?_
  refine z_getf fl_X9_7 dX9_fingerprint_17 m_d rfl ?_
  refine g_iload_n dX9_fingerprint_20 rfl ?_
  refine z_iaload (j := 4) dX9_fingerprint_21 m_v (by omega) (by omega) (by omega) ?_
  refine z_i2l dX9_fingerprint_22 (by omega) ?_
  refine z_ladd dX9_fingerprint_23 ?_
  refine g_lstore_n dX9_fingerprint_24 rfl (Nat.le_of_ble_eq_true rfl) ?_
  refine z_iinc dX9_fingerprint_25 rfl (Nat.le_of_ble_eq_true rfl) ?_
  refine g_goto (tgt := 6) dX9_fingerprint_28 (by decide) ?_
  refine g_iload_n dX9_fingerprint_6 rfl ?_
  refine z_iconst dX9_fingerprint_7 ?_
  refine z_icmp_gt (tgt := 31) dX9_fingerprint_8 (by decide) (by omega) (by omega) (fun c8 => ?_) (fun c8 => absurd c8 (by omega))
  refine z_ldc2 (31) dX9_fingerprint_31 kc_X9_212 rfl ?_
  refine g_lload_n dX9_fingerprint_34 rfl ?_
  refine z_lmul dX9_fingerprint_35 ?_
  refine g_aload_n dX9_fingerprint_36 rfl ?_
  refine z_getf fl_X9_7 dX9_fingerprint_37 m_d rfl ?_
  refine z_iconst dX9_fingerprint_40 ?_
  refine z_iaload (j := 5) dX9_fingerprint_41 m_v rfl (by omega) (by omega) ?_
  refine z_i2l dX9_fingerprint_42 (by omega) ?_
  refine z_ladd dX9_fingerprint_43 ?_
  refine g_lstore_n dX9_fingerprint_44 rfl (Nat.le_of_ble_eq_true rfl) ?_
  refine z_iconst dX9_fingerprint_45 ?_
  refine g_istore_n dX9_fingerprint_46 rfl (Nat.le_of_ble_eq_true rfl) ?_
  have lp := loop1 (sC σ).length 0 (by omega)
  rw [List.take_zero, List.foldl_nil] at lp
  unfold fp0 at lp
  rw [f0, f1, f2, f3, hv0, r5]
  exact lp
