/-! the reference: encode, decode, fingerprint -/
set_option maxHeartbeats 1000000 in
theorem k_encode {M0 : pM} {z d : Nat} {k : kk}  (hR : RM M0 d k)  : RK I_X9_encode yX9_encode d [] M0 z (oEncode k) := by
  obtain ⟨σ, hs, x⟩ := k
  obtain ⟨g, gp, e, co, ec, cd, wr, tc, mo, tk, fm, ex, m_d, m_v, hf, hG, ⟨ga, m_as⟩, m_pa, hh, h, hx, hm, hg, ⟨gt, m_to⟩, ⟨gf, m_fo⟩⟩ := id hR
  try dsimp only at m_d hf hG hh h hx
  obtain ⟨⟨f0, f1, f2, f3⟩, hv, hvr⟩ := id hf
  obtain ⟨⟨r5, r6, r7, r8, r9⟩, ⟨l1, l2, l3⟩, hcb, hab, hrb⟩ := id hvr
  have hS : okS (g 0) (g 1) (g 2) (g 3) := by rw [f0, f1, f2, f3]; exact hG.1
  have hxl := h.len
  have hl4 := hh.1
  have fr : Off M0 M0 d (d + 9) := Off.rf
  have hck := cend_ok hG.1 hx hxl.1 hG.2.1
  have hcr := crun_ok hG.1 hx hG.2.1 (x.length + 1) (Nat.le_refl _)
  unfold oEncode pushed
  try dsimp only
  refine C.intro (pl := [some (.ref d), none]) pn_X9 rfl (fun h => absurd h (by decide)) rfl (Nat.le_of_ble_eq_true rfl) rfl ?_
  have lp2 : ∀ (co2 ec2 cd2 wr2 : Int) (ga2 gp2 gt2 g3 : Nat → Int) (ex2 : Nat → Bool), (cend (sO σ) (sX σ) (sS σ) (sL σ) x (sT σ)).2.2.1.length ≤ 400 → (∀ i, i < (cend (sO σ) (sX σ) (sS σ) (sL σ) x (sT σ)).2.2.1.length → g3 (24260 + i) = (cend (sO σ) (sX σ) (sS σ) (sL σ) x (sT σ)).2.2.1.getD i 0) → g3 5 = ((cend (sO σ) (sX σ) (sS σ) (sL σ) x (sT σ)).2.2.1.length : Int) → g3 6 = (cend (sO σ) (sX σ) (sS σ) (sL σ) x (sT σ)).2.2.2 → g3 7 = (x.length : Int) + 1 → g3 8 = ((crun (sO σ) (sX σ) (sS σ) (sL σ) x (sT σ) (x.length + 1)).2.1.map (fun x => x.1)).sum → VM g3 (crun (sO σ) (sX σ) (sS σ) (sL σ) x (sT σ) (x.length + 1)).1 → tdd gt2 (crun (sO σ) (sX σ) (sS σ) (sL σ) x (sT σ) (x.length + 1)).2.1 → (∀ x, x < 4 ∨ x = 9 ∨ 25464 ≤ x → g3 x = g x) → ∀ (u j : Nat) (M : pM) (g1 : Nat → Int), j + u = 804 → (∀ y, y < j → g1 (24660 + y) = gt2 y) → (∀ x, (x < 24660 ∨ 25464 ≤ x) → g1 x = g3 x) → M d = some (ro d ((hpush hs σ).length : Int) (x.length : Int) (cend (sO σ) (sX σ) (sS σ) (sL σ) x (sT σ)).1 (cend (sO σ) (sX σ) (sS σ) (sL σ) x (sT σ)).2.1 ((cend (sO σ) (sX σ) (sS σ) (sL σ) x (sT σ)).2.2.1.length : Int) (cend (sO σ) (sX σ) (sS σ) (sL σ) x (sT σ)).2.2.2 co2 ec2 cd2 wr2 ((crun (sO σ) (sX σ) (sS σ) (sL σ) x (sT σ) (x.length + 1)).2.1.map (fun x => x.1)).sum mo tk fm) → M (d + 1) = some (arI 25700 g1) → M (d + 2) = some (arI 25700 ga2) → M (d + 3) = some (arI 102800 gp2) → HP gp2 (hpush hs σ) → Tx M (d + 4) 200 x → Ma M d (cend (sO σ) (sX σ) (sS σ) (sL σ) x (sT σ)).2.2.1 → Go M d ex2 → M (d + 7) = some (arI 804 gt2) → M (d + 8) = some (arI 201 gf) → Off M0 M d (d + 9) → G I_X9_encode 0 0 (fun M' z' r' => z' = z ∧ r' = some (vI ((cend (sO σ) (sX σ) (sS σ) (sL σ) x (sT σ)).2.2.1.length : Int)) ∧ RM M' d ((sO σ, sX σ, sS σ, sL σ, (crun (sO σ) (sX σ) (sS σ) (sL σ) x (sT σ) (x.length + 1)).1, (cend (sO σ) (sX σ) (sS σ) (sL σ) x (sT σ)).2.2.1, (crun (sO σ) (sX σ) (sS σ) (sL σ) x (sT σ) (x.length + 1)).2.1, (cend (sO σ) (sX σ) (sS σ) (sL σ) x (sT σ)).2.2.2, sR σ), hpush hs σ, x) ∧ Off M0 M' d (d + 9)) 0 0 145 [some (.ref d), some (vI (j : Int))] [] M z := by
    intro co2 ec2 cd2 wr2 ga2 gp2 gt2 g3 ex2 e400 eb e5 e6 e7 e8 ev et eo u
    induction u with
    | zero =>
      intro j M g1 hj h1 h2 m_d m_v m_as m_pa hh2 h hm hg m_to m_fo fr
      have e1 : j = 804 := by omega
      subst e1
      have hfin : VP g1 (sO σ, sX σ, sS σ, sL σ, (crun (sO σ) (sX σ) (sS σ) (sL σ) x (sT σ) (x.length + 1)).1, (cend (sO σ) (sX σ) (sS σ) (sL σ) x (sT σ)).2.2.1, (crun (sO σ) (sX σ) (sS σ) (sL σ) x (sT σ) (x.length + 1)).2.1, (cend (sO σ) (sX σ) (sS σ) (sL σ) x (sT σ)).2.2.2, sR σ) := by
        refine ⟨⟨by rw [h2 0 (by omega), eo 0 (by omega)]; exact f0, by rw [h2 1 (by omega), eo 1 (by omega)]; exact f1, by rw [h2 2 (by omega), eo 2 (by omega)]; exact f2, by rw [h2 3 (by omega), eo 3 (by omega)]; exact f3⟩, ev.by_ (fun x hx => h2 x (by omega)), ⟨by rw [h2 5 (by omega)]; exact e5, by rw [h2 6 (by omega)]; exact e6, ?_, by rw [h2 8 (by omega)]; exact e8, by rw [h2 9 (by omega), eo 9 (by omega)]; exact r9⟩, ⟨e400, ?_, l3⟩, fun k hk => ?_, fun k hk => ?_, fun k hk => by rw [h2 _ (by omega), eo _ (by omega)]; exact hrb k hk⟩
        · show g1 7 = ((crun (sO σ) (sX σ) (sS σ) (sL σ) x (sT σ) (x.length + 1)).2.1.length : Int)
          rw [h2 7 (by omega), e7, hcr.2.1]; omega
        · show (crun (sO σ) (sX σ) (sS σ) (sL σ) x (sT σ) (x.length + 1)).2.1.length ≤ 201
          rw [hcr.2.1]; omega
        · have hk3 : k < (cend (sO σ) (sX σ) (sS σ) (sL σ) x (sT σ)).2.2.1.length := hk
          rw [h2 _ (by omega)]
          exact eb k hk3
        · obtain ⟨u0, u1, u2, u3⟩ := et k hk
          have hk3 : k < (crun (sO σ) (sX σ) (sS σ) (sL σ) x (sT σ) (x.length + 1)).2.1.length := hk
          have hk2 : k < x.length + 1 := by have := hcr.2.1; omega
          exact ⟨by rw [← u0, ← h1 (4 * k) (by omega)], by rw [← u1, ← h1 (4 * k + 1) (by omega)]; rfl, by rw [← u2, ← h1 (4 * k + 2) (by omega)]; rfl, by rw [← u3, ← h1 (4 * k + 3) (by omega)]; rfl⟩
      refine g_iload_n dX9_encode_145 rfl ?_
      refine z_sipush dX9_encode_146 (by decide +kernel) ?_
      refine z_icmp_ge (tgt := 174) dX9_encode_149 (by decide) (by omega) (by omega) (fun c149 => ?_) (fun c149 => absurd c149 (by omega))
      refine g_aload_n dX9_encode_174 rfl ?_
      refine z_getf fl_X9_73 dX9_encode_175 m_d rfl ?_
      exact g_ireturn dX9_encode_178 rfl (Nat.le_of_ble_eq_true rfl) (Nat.le_of_ble_eq_true rfl) ⟨rfl, rfl, ⟨_, _, (cend (sO σ) (sX σ) (sS σ) (sL σ) x (sT σ)), _, _, _, _, _, _, _, _, _, m_d, m_v, hfin, ⟨hG.1, hcr.1, hck.1, hG.2.2.2.1, hck.2.2.1, Int.le_trans hck.2.2.2 (by decide)⟩, ⟨_, m_as⟩, m_pa, hh2, h, hx, hm, hg, ⟨_, m_to⟩, ⟨_, m_fo⟩⟩, fr⟩
    | succ u ih =>
      intro j M g1 hj h1 h2 m_d m_v m_as m_pa hh2 h hm hg m_to m_fo fr
      refine g_iload_n dX9_encode_145 rfl ?_
      refine z_sipush dX9_encode_146 (by decide +kernel) ?_
      refine z_icmp_ge (tgt := 174) dX9_encode_149 (by decide) (by omega) (by omega) (fun c149 => absurd c149 (by omega)) (fun c149 => ?_)
      refine g_aload_n dX9_encode_152 rfl ?_
      refine z_getf fl_X9_7 dX9_encode_153 m_d rfl ?_
      refine z_sipush dX9_encode_156 (by decide +kernel) ?_
      refine g_iload_n dX9_encode_159 rfl ?_
      refine z_iadd dX9_encode_160 ?_
      refine g_aload_n dX9_encode_161 rfl ?_
      refine z_getf fl_X9_30 dX9_encode_162 m_d rfl ?_
      refine g_iload_n dX9_encode_165 rfl ?_
      refine z_iaload (j := j) dX9_encode_166 m_to rfl (by omega) (by omega) ?_
      refine z_iastore (j := 24660 + j) dX9_encode_167 m_v (by omega) (by omega) (by omega) (fun M m_v o => ?_)
      have m_d := (o _ (by omega)).trans m_d
      have m_to := (o _ (by omega)).trans m_to
      have m_as := (o _ (by omega)).trans m_as
      have m_pa := (o _ (by omega)).trans m_pa
      have h := h.by_ (o _ (by omega))
      have hm := hm.by_ (o _ (by omega))
      have hg := hg.by_ (o _ (by omega))
      have m_fo := (o _ (by omega)).trans m_fo
      have fr : Off M0 M d (d + 9) := fun x hx => (o x (by omega)).trans (fr x hx)
      refine z_iinc dX9_encode_168 rfl (Nat.le_of_ble_eq_true rfl) ?_
      refine g_goto (tgt := 145) dX9_encode_171 (by decide) ?_
      refine ih (j + 1) M _ (by omega) (fun y hy => ?_) (fun x hx => by rw [upZ_n (by omega)]; exact h2 x hx) m_d m_v m_as m_pa hh2 h hm hg m_to m_fo fr
      by_cases q : y = j
      · rw [q, upZ_s]
      · rw [upZ_n (by omega)]; exact h1 y (by omega)
  have lp1 : ∀ (co2 ec2 cd2 wr2 : Int) (ga2 gp2 gt2 g2 : Nat → Int) (ex2 : Nat → Bool), (cend (sO σ) (sX σ) (sS σ) (sL σ) x (sT σ)).2.2.1.length ≤ 400 → VM g2 (crun (sO σ) (sX σ) (sS σ) (sL σ) x (sT σ) (x.length + 1)).1 → VO g g2 → tdd gt2 (crun (sO σ) (sX σ) (sS σ) (sL σ) x (sT σ) (x.length + 1)).2.1 → ∀ (u j : Nat) (M : pM) (g1 : Nat → Int), j + u = 400 → (∀ i, i < j → i < (cend (sO σ) (sX σ) (sS σ) (sL σ) x (sT σ)).2.2.1.length → g1 (24260 + i) = (cend (sO σ) (sX σ) (sS σ) (sL σ) x (sT σ)).2.2.1.getD i 0) → (∀ x, (x < 24260 ∨ 24660 ≤ x) → g1 x = g2 x) → M d = some (ro d ((hpush hs σ).length : Int) (x.length : Int) (cend (sO σ) (sX σ) (sS σ) (sL σ) x (sT σ)).1 (cend (sO σ) (sX σ) (sS σ) (sL σ) x (sT σ)).2.1 ((cend (sO σ) (sX σ) (sS σ) (sL σ) x (sT σ)).2.2.1.length : Int) (cend (sO σ) (sX σ) (sS σ) (sL σ) x (sT σ)).2.2.2 co2 ec2 cd2 wr2 ((crun (sO σ) (sX σ) (sS σ) (sL σ) x (sT σ) (x.length + 1)).2.1.map (fun x => x.1)).sum mo tk fm) → M (d + 1) = some (arI 25700 g1) → M (d + 2) = some (arI 25700 ga2) → M (d + 3) = some (arI 102800 gp2) → HP gp2 (hpush hs σ) → Tx M (d + 4) 200 x → Ma M d (cend (sO σ) (sX σ) (sS σ) (sL σ) x (sT σ)).2.2.1 → Go M d ex2 → M (d + 7) = some (arI 804 gt2) → M (d + 8) = some (arI 201 gf) → Off M0 M d (d + 9) → G I_X9_encode 0 0 (fun M' z' r' => z' = z ∧ r' = some (vI ((cend (sO σ) (sX σ) (sS σ) (sL σ) x (sT σ)).2.2.1.length : Int)) ∧ RM M' d ((sO σ, sX σ, sS σ, sL σ, (crun (sO σ) (sX σ) (sS σ) (sL σ) x (sT σ) (x.length + 1)).1, (cend (sO σ) (sX σ) (sS σ) (sL σ) x (sT σ)).2.2.1, (crun (sO σ) (sX σ) (sS σ) (sL σ) x (sT σ) (x.length + 1)).2.1, (cend (sO σ) (sX σ) (sS σ) (sL σ) x (sT σ)).2.2.2, sR σ), hpush hs σ, x) ∧ Off M0 M' d (d + 9)) 0 0 57 [some (.ref d), some (vI (j : Int))] [] M z := by
    intro co2 ec2 cd2 wr2 ga2 gp2 gt2 g2 ex2 e400 ev eo et u
    induction u with
    | zero =>
      intro j M g1 hj h1 h2 m_d m_v m_as m_pa hh2 h hm hg m_to m_fo fr
      have e1 : j = 400 := by omega
      subst e1
      refine g_iload_n dX9_encode_57 rfl ?_
      refine z_sipush dX9_encode_58 (by decide +kernel) ?_
      refine z_icmp_ge (tgt := 98) dX9_encode_61 (by decide) (by omega) (by omega) (fun c61 => ?_) (fun c61 => absurd c61 (by omega))
      refine g_aload_n dX9_encode_98 rfl ?_
      refine z_getf fl_X9_7 dX9_encode_99 m_d rfl ?_
      refine z_iconst dX9_encode_102 ?_
      refine g_aload_n dX9_encode_103 rfl ?_
      refine z_getf fl_X9_73 dX9_encode_104 m_d rfl ?_
      refine z_iastore (j := 5) dX9_encode_107 m_v (by omega) (by omega) (by omega) (fun M m_v o => ?_)
      have m_d := (o _ (by omega)).trans m_d
      have m_as := (o _ (by omega)).trans m_as
      have m_pa := (o _ (by omega)).trans m_pa
      have h := h.by_ (o _ (by omega))
      have hm := hm.by_ (o _ (by omega))
      have hg := hg.by_ (o _ (by omega))
      have m_to := (o _ (by omega)).trans m_to
      have m_fo := (o _ (by omega)).trans m_fo
      have fr : Off M0 M d (d + 9) := fun x hx => (o x (by omega)).trans (fr x hx)
      refine g_aload_n dX9_encode_108 rfl ?_
      refine z_getf fl_X9_7 dX9_encode_109 m_d rfl ?_
      refine z_bipush dX9_encode_112 (by decide +kernel) ?_
      refine g_aload_n dX9_encode_114 rfl ?_
      refine z_getf fl_X9_76 dX9_encode_115 m_d rfl ?_
      refine z_iastore (j := 6) dX9_encode_118 m_v (by omega) (by omega) (by omega) (fun M m_v o => ?_)
      have m_d := (o _ (by omega)).trans m_d
      have m_as := (o _ (by omega)).trans m_as
      have m_pa := (o _ (by omega)).trans m_pa
      have h := h.by_ (o _ (by omega))
      have hm := hm.by_ (o _ (by omega))
      have hg := hg.by_ (o _ (by omega))
      have m_to := (o _ (by omega)).trans m_to
      have m_fo := (o _ (by omega)).trans m_fo
      have fr : Off M0 M d (d + 9) := fun x hx => (o x (by omega)).trans (fr x hx)
      refine g_aload_n dX9_encode_119 rfl ?_
      refine z_getf fl_X9_7 dX9_encode_120 m_d rfl ?_
      refine z_bipush dX9_encode_123 (by decide +kernel) ?_
      refine g_aload_n dX9_encode_125 rfl ?_
      refine z_getf fl_X9_140 dX9_encode_126 m_d rfl ?_
      refine z_iconst dX9_encode_129 ?_
      refine z_iadd dX9_encode_130 ?_
      refine z_iastore (j := 7) dX9_encode_131 m_v (by omega) (by omega) (by omega) (fun M m_v o => ?_)
      have m_d := (o _ (by omega)).trans m_d
      have m_as := (o _ (by omega)).trans m_as
      have m_pa := (o _ (by omega)).trans m_pa
      have h := h.by_ (o _ (by omega))
      have hm := hm.by_ (o _ (by omega))
      have hg := hg.by_ (o _ (by omega))
      have m_to := (o _ (by omega)).trans m_to
      have m_fo := (o _ (by omega)).trans m_fo
      have fr : Off M0 M d (d + 9) := fun x hx => (o x (by omega)).trans (fr x hx)
      refine g_aload_n dX9_encode_132 rfl ?_
      refine z_getf fl_X9_7 dX9_encode_133 m_d rfl ?_
      refine z_bipush dX9_encode_136 (by decide +kernel) ?_
      refine g_aload_n dX9_encode_138 rfl ?_
      refine z_getf fl_X9_160 dX9_encode_139 m_d rfl ?_
      refine z_iastore (j := 8) dX9_encode_142 m_v (by omega) (by omega) (by omega) (fun M m_v o => ?_)
      have m_d := (o _ (by omega)).trans m_d
      have m_as := (o _ (by omega)).trans m_as
      have m_pa := (o _ (by omega)).trans m_pa
      have h := h.by_ (o _ (by omega))
      have hm := hm.by_ (o _ (by omega))
      have hg := hg.by_ (o _ (by omega))
      have m_to := (o _ (by omega)).trans m_to
      have m_fo := (o _ (by omega)).trans m_fo
      have fr : Off M0 M d (d + 9) := fun x hx => (o x (by omega)).trans (fr x hx)
      refine z_iconst dX9_encode_143 ?_
      refine g_istore_n dX9_encode_144 rfl (Nat.le_of_ble_eq_true rfl) ?_
      refine lp2 co2 ec2 cd2 wr2 ga2 gp2 gt2 _ ex2 e400 (fun i hi => ?_) ?_ ?_ ?_ ?_ (ev.by_ (fun x hx => ?_)) et (fun x hx => ?_) 804 0 M _ (by omega) (fun y hy => absurd hy (Nat.not_lt_zero _)) (fun x hx => rfl) m_d m_v m_as m_pa hh2 h hm hg m_to m_fo fr
      · rw [upZ_n (by omega), upZ_n (by omega), upZ_n (by omega), upZ_n (by omega)]; exact h1 i (by omega) hi
      · rw [upZ_n (by omega), upZ_n (by omega), upZ_n (by omega), upZ_s]
      · rw [upZ_n (by omega), upZ_n (by omega), upZ_s]
      · rw [upZ_n (by omega), upZ_s]
      · rw [upZ_s]
      · rw [upZ_n (by omega), upZ_n (by omega), upZ_n (by omega), upZ_n (by omega)]; exact h2 x (by omega)
      · rw [upZ_n (by omega), upZ_n (by omega), upZ_n (by omega), upZ_n (by omega), h2 x (by omega)]; exact eo x (by omega)
    | succ u ih =>
      intro j M g1 hj h1 h2 m_d m_v m_as m_pa hh2 h hm hg m_to m_fo fr
      obtain ⟨gm, m_ma, hm1, hm2⟩ := id hm
      refine g_iload_n dX9_encode_57 rfl ?_
      refine z_sipush dX9_encode_58 (by decide +kernel) ?_
      refine z_icmp_ge (tgt := 98) dX9_encode_61 (by decide) (by omega) (by omega) (fun c61 => absurd c61 (by omega)) (fun c61 => ?_)
      refine g_aload_n dX9_encode_64 rfl ?_
      refine z_getf fl_X9_7 dX9_encode_65 m_d rfl ?_
      refine z_sipush dX9_encode_68 (by decide +kernel) ?_
      refine g_iload_n dX9_encode_71 rfl ?_
      refine z_iadd dX9_encode_72 ?_
      refine g_iload_n dX9_encode_73 rfl ?_
      refine g_aload_n dX9_encode_74 rfl ?_
      refine z_getf fl_X9_73 dX9_encode_75 m_d rfl ?_
      refine z_icmp_ge (tgt := 90) dX9_encode_78 (by decide) (by omega) (by omega) (fun c78 => ?_) (fun c78 => ?_)
      · refine z_iconst dX9_encode_90 ?_
        refine z_iastore (j := 24260 + j) dX9_encode_91 m_v (by omega) (by omega) (by omega) (fun M m_v o => ?_)
        have m_d := (o _ (by omega)).trans m_d
        have m_ma := (o _ (by omega)).trans m_ma
        have m_as := (o _ (by omega)).trans m_as
        have m_pa := (o _ (by omega)).trans m_pa
        have h := h.by_ (o _ (by omega))
        have hm := hm.by_ (o _ (by omega))
        have hg := hg.by_ (o _ (by omega))
        have m_to := (o _ (by omega)).trans m_to
        have m_fo := (o _ (by omega)).trans m_fo
        have fr : Off M0 M d (d + 9) := fun x hx => (o x (by omega)).trans (fr x hx)
        refine z_iinc dX9_encode_92 rfl (Nat.le_of_ble_eq_true rfl) ?_
        refine g_goto (tgt := 57) dX9_encode_95 (by decide) ?_
        refine ih (j + 1) M _ (by omega) (fun i hi hi2 => ?_) (fun x hx => by rw [upZ_n (by omega)]; exact h2 x hx) m_d m_v m_as m_pa hh2 h hm hg m_to m_fo fr
        by_cases q : i = j
        · subst q
          rw [upZ_s]
          first
          | exact hm2 i hi2
          | (exfalso; omega)
        · rw [upZ_n (by omega)]; exact h1 i (by omega) hi2
      · refine g_aload_n dX9_encode_81 rfl ?_
        refine z_getf fl_X9_23 dX9_encode_82 m_d rfl ?_
        refine g_iload_n dX9_encode_85 rfl ?_
        refine z_iaload (j := j) dX9_encode_86 m_ma rfl (by omega) (by omega) ?_
        refine g_goto (tgt := 91) dX9_encode_87 (by decide) ?_
        refine z_iastore (j := 24260 + j) dX9_encode_91 m_v (by omega) (by omega) (by omega) (fun M m_v o => ?_)
        have m_d := (o _ (by omega)).trans m_d
        have m_ma := (o _ (by omega)).trans m_ma
        have m_as := (o _ (by omega)).trans m_as
        have m_pa := (o _ (by omega)).trans m_pa
        have h := h.by_ (o _ (by omega))
        have hm := hm.by_ (o _ (by omega))
        have hg := hg.by_ (o _ (by omega))
        have m_to := (o _ (by omega)).trans m_to
        have m_fo := (o _ (by omega)).trans m_fo
        have fr : Off M0 M d (d + 9) := fun x hx => (o x (by omega)).trans (fr x hx)
        refine z_iinc dX9_encode_92 rfl (Nat.le_of_ble_eq_true rfl) ?_
        refine g_goto (tgt := 57) dX9_encode_95 (by decide) ?_
        refine ih (j + 1) M _ (by omega) (fun i hi hi2 => ?_) (fun x hx => by rw [upZ_n (by omega)]; exact h2 x hx) m_d m_v m_as m_pa hh2 h hm hg m_to m_fo fr
        by_cases q : i = j
        · subst q
          rw [upZ_s]
          first
          | exact hm2 i hi2
          | (exfalso; omega)
        · rw [upZ_n (by omega)]; exact h1 i (by omega) hi2
  refine g_aload_n dX9_encode_0 rfl ?_
  refine z_getf fl_X9_7 dX9_encode_1 m_d rfl ?_
  refine g_aload_n dX9_encode_4 rfl ?_
  refine z_getf fl_X9_13 dX9_encode_5 m_d rfl ?_
  refine z_callSV dX9_encode_8 lm_X9_172 lk_X9_copies (r_copies m_v m_as (by omega)) rfl rfl (mkRoom rfl rfl) (Nat.le_of_ble_eq_true rfl) (Nat.le_of_ble_eq_true rfl) (Nat.le_of_ble_eq_true rfl) (fun M r hp => ?_)
  obtain ⟨rfl, ⟨ga2, m_as, hga⟩, o1⟩ := hp
  have m_d := (o1 _ (by omega)).trans m_d
  have m_v := (o1 _ (by omega)).trans m_v
  have m_pa := (o1 _ (by omega)).trans m_pa
  have h := h.by_ (o1 _ (by omega))
  have hm := hm.by_ (o1 _ (by omega))
  have hg := hg.by_ (o1 _ (by omega))
  have m_to := (o1 _ (by omega)).trans m_to
  have m_fo := (o1 _ (by omega)).trans m_fo
  have fr : Off M0 M d (d + 9) := fun x hx => (o1 x (by omega)).trans (fr x hx)
  have hfa : VP ga2 σ := hf.by_ hga
  refine g_aload_n dX9_encode_11 rfl ?_
  refine g_aload_n dX9_encode_12 rfl ?_
  refine z_getf fl_X9_20 dX9_encode_13 m_d rfl ?_
  refine g_aload_n dX9_encode_16 rfl ?_
  refine z_getf fl_X9_140 dX9_encode_17 m_d rfl ?_
  refine z_callVV dX9_encode_20 lm_X9_176 lk_X9_codesAll (r_codesAll m_d m_v hv hG.2.1 hS h (by omega) hx hxl.1 hg hm m_to) rfl rfl m_d rfl (mkRoom rfl rfl) (Nat.le_of_ble_eq_true rfl) (Nat.le_of_ble_eq_true rfl) (Nat.le_of_ble_eq_true rfl) (fun M r hp => ?_)
  rw [f0, f1, f2, f3] at hp
  obtain ⟨rfl, ⟨co2, ec2, cd2, wr2, m_d⟩, ⟨g2, m_v, hv2, ho2⟩, hm, ⟨ex2, hg⟩, ⟨gt2, m_to, hto⟩, o1⟩ := hp
  have m_as := (o1 _ (by omega)).trans m_as
  have m_pa := (o1 _ (by omega)).trans m_pa
  have h := h.by_ (o1 _ (by omega))
  have m_fo := (o1 _ (by omega)).trans m_fo
  have fr : Off M0 M d (d + 9) := fun x hx => (o1 x (by omega)).trans (fr x hx)
  refine g_aload_n dX9_encode_23 rfl ?_
  refine z_getf fl_X9_73 dX9_encode_24 m_d rfl ?_
  refine z_sipush dX9_encode_27 (by decide +kernel) ?_
  refine z_icmp_le (tgt := 47) dX9_encode_30 (by decide) (by omega) (by omega) (fun c30 => ?_) (fun c30 => ?_)
  · refine g_aload_n dX9_encode_47 rfl ?_
    refine g_aload_n dX9_encode_48 rfl ?_
    refine z_getf fl_X9_13 dX9_encode_49 m_d rfl ?_
    refine z_callVV dX9_encode_52 lm_X9_41 lk_X9_keeps (r_keeps m_as (by omega) hfa m_d m_pa hh hG) rfl rfl m_d rfl (mkRoom rfl rfl) (Nat.le_of_ble_eq_true rfl) (Nat.le_of_ble_eq_true rfl) (Nat.le_of_ble_eq_true rfl) (fun M r hp => ?_)
    obtain ⟨rfl, m_d, ⟨gp2, m_pa, hh2⟩, o1⟩ := hp
    have m_v := (o1 _ (by omega)).trans m_v
    have m_as := (o1 _ (by omega)).trans m_as
    have h := h.by_ (o1 _ (by omega))
    have hm := hm.by_ (o1 _ (by omega))
    have hg := hg.by_ (o1 _ (by omega))
    have m_to := (o1 _ (by omega)).trans m_to
    have m_fo := (o1 _ (by omega)).trans m_fo
    have fr : Off M0 M d (d + 9) := fun x hx => (o1 x (by omega)).trans (fr x hx)
    refine z_iconst dX9_encode_55 ?_
    refine g_istore_n dX9_encode_56 rfl (Nat.le_of_ble_eq_true rfl) ?_
    rw [if_neg (by omega)]
    exact lp1 co2 ec2 cd2 wr2 ga2 gp2 gt2 g2 ex2 (by omega) hv2 ho2 hto 400 0 M g2 (by omega) (fun i hi => absurd hi (Nat.not_lt_zero _)) (fun x hx => rfl) m_d m_v m_as m_pa hh2 h hm hg m_to m_fo fr
  · refine g_aload_n dX9_encode_33 rfl ?_
    refine z_getf fl_X9_13 dX9_encode_34 m_d rfl ?_
    refine g_aload_n dX9_encode_37 rfl ?_
    refine z_getf fl_X9_7 dX9_encode_38 m_d rfl ?_
    refine z_callSV dX9_encode_41 lm_X9_172 lk_X9_copies (r_copies m_as m_v (by omega)) rfl rfl (mkRoom rfl rfl) (Nat.le_of_ble_eq_true rfl) (Nat.le_of_ble_eq_true rfl) (Nat.le_of_ble_eq_true rfl) (fun M r hp => ?_)
    obtain ⟨rfl, ⟨gb, m_v, hgb⟩, o1⟩ := hp
    have m_d := (o1 _ (by omega)).trans m_d
    have m_as := (o1 _ (by omega)).trans m_as
    have m_pa := (o1 _ (by omega)).trans m_pa
    have h := h.by_ (o1 _ (by omega))
    have hm := hm.by_ (o1 _ (by omega))
    have hg := hg.by_ (o1 _ (by omega))
    have m_to := (o1 _ (by omega)).trans m_to
    have m_fo := (o1 _ (by omega)).trans m_fo
    have fr : Off M0 M d (d + 9) := fun x hx => (o1 x (by omega)).trans (fr x hx)
    refine z_bipush dX9_encode_44 (by decide +kernel) ?_
    exact g_ireturn dX9_encode_46 rfl (Nat.le_of_ble_eq_true rfl) (Nat.le_of_ble_eq_true rfl) ⟨rfl, by rw [if_pos (by omega)], by rw [if_pos (by omega)]; exact ⟨_, _, (cend (sO σ) (sX σ) (sS σ) (sL σ) x (sT σ)), _, _, _, _, _, _, _, _, _, m_d, m_v, (hfa.by_ hgb), hG, ⟨_, m_as⟩, m_pa, hh, h, hx, hm, hg, ⟨_, m_to⟩, ⟨_, m_fo⟩⟩, fr⟩
