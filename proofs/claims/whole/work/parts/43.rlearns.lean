/-! the reference: a symbol is learnt in all orders -/
set_option maxHeartbeats 1000000 in
theorem r_learns {M0 : pM} {z d : Nat} {pm ty lo ra mm lg co ec cd wr tc mo tk fm : Int} (m_d : M0 d = some (ro d pm ty lo ra mm lg co ec cd wr tc mo tk fm)) {g : Nat → Int} (m_v : M0 (d + 1) = some (arI 25700 g)) {t : tbl} (hv : VM g t) (ht : okT t) (hS : okS (g 0) (g 1) (g 2) (g 3)) {q N n s : Nat} {xs : List Int} (h : Tx M0 q N xs) (hq : q ≠ d + 1) (hx : okX xs) (hn : n ≤ xs.length) (hs : s < 96) : CW I_X9_learns yX9_learns [.ref d, .ref q, vI (n : Int), vI (s : Int)] M0 z (fun M' r => r = none ∧ ∃ g', M' (d + 1) = some (arI 25700 g') ∧ VM g' (incr t (ky xs n) s (g 2) (g 3) (nOrd (g 0) n)) ∧ VO g g' ∧ (∀ x : Nat, ¬ (x = d + 1) → M' x = M0 x)) := by
  obtain ⟨hS1, hS2, hS3, hS4⟩ := hS
  have hxl := h.len
  have fr : (∀ x : Nat, ¬ (x = d + 1) → M0 x = M0 x) := fun _ _ => rfl
  refine C.intro (pl := [some (.ref d), some (.ref q), some (vI (n : Int)), some (vI (s : Int)), none, none, none]) pn_X9 rfl (fun h => absurd h (by decide)) rfl (Nat.le_of_ble_eq_true rfl) rfl ?_
  have loop : ∀ (k j : Nat) (M : pM) (g1 : Nat → Int), j + k = nOrd (g 0) n → M d = some (ro d pm ty lo ra mm lg co ec cd wr tc mo tk fm) → M (d + 1) = some (arI 25700 g1) → VM g1 (incr t (ky xs n) s (g 2) (g 3) j) → VO g g1 → (∀ x : Nat, ¬ (x = d + 1) → M x = M0 x) → Tx M q N xs → ∀ K5 K6 : Option Value, G I_X9_learns 0 0 (fun M' z' r' => z' = z ∧ r' = none ∧ ∃ g', M' (d + 1) = some (arI 25700 g') ∧ VM g' (incr t (ky xs n) s (g 2) (g 3) (nOrd (g 0) n)) ∧ VO g g' ∧ (∀ x : Nat, ¬ (x = d + 1) → M' x = M0 x)) 0 0 3 [some (.ref d), some (.ref q), some (vI (n : Int)), some (vI (s : Int)), some (vI (j : Int)), K5, K6] [] M z := by
    intro k
    induction k with
    | zero =>
      intro j M g1 hj m_d m_v hv ho fr h K5 K6
      have h0 := ho 0 (by omega)
      have e : j = nOrd (g 0) n := by omega
      subst e
      have hno : (nOrd (g 0) n : Int) ≤ 4 ∧ (nOrd (g 0) n : Int) > g 0 ∨ (nOrd (g 0) n : Int) ≤ 4 ∧ (nOrd (g 0) n : Int) > n := by unfold nOrd; omega
      refine g_iload dX9_learns_3 rfl ?_
      refine g_aload_n dX9_learns_5 rfl ?_
      refine z_getf fl_X9_7 dX9_learns_6 m_d rfl ?_
      refine z_iconst dX9_learns_9 ?_
      refine z_iaload (j := 0) dX9_learns_10 m_v rfl (by omega) (by omega) ?_
      refine z_icmp_gt (tgt := 134) dX9_learns_11 (by decide) (by omega) (by omega) (fun c11 => ?_) (fun c11 => ?_)
      · exact g_return dX9_learns_134 rfl (Nat.le_of_ble_eq_true rfl) (Nat.le_of_ble_eq_true rfl) ⟨rfl, rfl, g1, m_v, hv, ho, fr⟩
      · refine g_iload dX9_learns_14 rfl ?_
        refine g_iload_n dX9_learns_16 rfl ?_
        refine z_icmp_gt (tgt := 134) dX9_learns_17 (by decide) (by omega) (by omega) (fun c17 => ?_) (fun c17 => absurd c17 (by omega))
        exact g_return dX9_learns_134 rfl (Nat.le_of_ble_eq_true rfl) (Nat.le_of_ble_eq_true rfl) ⟨rfl, rfl, g1, m_v, hv, ho, fr⟩
    | succ k ih =>
      intro j M g1 hj m_d m_v hv ho fr h K5 K6
      have h0 := ho 0 (by omega)
      have h2 := ho 2 (by omega)
      have h3 := ho 3 (by omega)
      have hjo : (j : Int) ≤ g 0 ∧ j ≤ n := by unfold nOrd at hj; omega
      have hcx : okX (cx xs n j) := cx_ok hx
      have hcl : (cx xs n j).length ≤ 3 := by rw [cx_len hn hjo.2]; omega
      have hky := ky_rng (xs := xs) (n := n) (j := j) hx hn hjo.2 (by omega)
      have htj := okT_incr ht (f := ky xs n) (n := j) hs hS3 hS4 (fun i hi => ky_rng hx hn (by omega) (by omega))
      have ih2 := fun M2 g2 => ih (j + 1) M2 g2 (by omega)
      rw [incr] at ih2
      have hvv := hv
      obtain ⟨v1, v2, v3⟩ := hvv
      have bnd : ∀ i (hi : i < ((incr t (ky xs n) s (g 2) (g 3) j)).length), (∀ x, x < 96 → 0 ≤ gr g1 i x ∧ gr g1 i x ≤ 1010) ∧ wt (gr g1 i) ≤ 1000 := fun i hi => by
        have hoi := htj.2 _ (List.getElem_mem hi)
        refine ⟨fun x hx => ?_, ?_⟩
        · rw [(v3 i hi).2 x hx]; exact hoi.1.cnt hx
        · rw [show wt (gr g1 i) = wt _ from sm_cong (v3 i hi).2]; exact hoi.2.1
      rcases met_cases (incr t (ky xs n) s (g 2) (g 3) j) (ky xs n j) with ⟨e1, e2, e3, e4⟩ | ⟨i, hi, e1, e2, e3, e4⟩ | ⟨e3, e4, e1, e2⟩
      · have hi1 : inc1 (incr t (ky xs n) s (g 2) (g 3) j) (ky xs n j) s (g 2) (g 3) = (incr t (ky xs n) s (g 2) (g 3) j) := by unfold inc1; rw [e1, e2, if_neg (by decide)]
        rw [hi1] at ih2
        refine g_iload dX9_learns_3 rfl ?_
        refine g_aload_n dX9_learns_5 rfl ?_
        refine z_getf fl_X9_7 dX9_learns_6 m_d rfl ?_
        refine z_iconst dX9_learns_9 ?_
        refine z_iaload (j := 0) dX9_learns_10 m_v rfl (by omega) (by omega) ?_
        refine z_icmp_gt (tgt := 134) dX9_learns_11 (by decide) (by omega) (by omega) (fun c11 => absurd c11 (by omega)) (fun c11 => ?_)
        refine g_iload dX9_learns_14 rfl ?_
        refine g_iload_n dX9_learns_16 rfl ?_
        refine z_icmp_gt (tgt := 134) dX9_learns_17 (by decide) (by omega) (by omega) (fun c17 => absurd c17 (by omega)) (fun c17 => ?_)
        refine g_aload_n dX9_learns_20 rfl ?_
        refine g_aload_n dX9_learns_21 rfl ?_
        refine g_iload_n dX9_learns_22 rfl ?_
        refine g_iload dX9_learns_23 rfl ?_
        refine z_callVR dX9_learns_25 lm_X9_57 lk_X9_find ((r_find m_d m_v hv h hx hn hjo.2 (by omega)).eq (by rw [e3])) rfl rfl m_d rfl (mkRoom rfl rfl) (Nat.le_of_ble_eq_true rfl) (Nat.le_of_ble_eq_true rfl) (Nat.le_of_ble_eq_true rfl) ?_
        refine g_istore dX9_learns_28 (Nat.le_of_ble_eq_true rfl) ?_
        refine g_iload dX9_learns_30 rfl ?_
        refine z_if_ge (tgt := 116) dX9_learns_32 (by decide) (by omega) (fun c32 => absurd c32 (by omega)) (fun c32 => ?_)
        refine g_aload_n dX9_learns_35 rfl ?_
        refine z_getf fl_X9_7 dX9_learns_36 m_d rfl ?_
        refine z_iconst dX9_learns_39 ?_
        refine z_iaload (j := 4) dX9_learns_40 m_v rfl (by omega) (by omega) ?_
        refine z_sipush dX9_learns_41 (by decide +kernel) ?_
        refine z_icmp_ge (tgt := 116) dX9_learns_44 (by decide) (by omega) (by omega) (fun c44 => ?_) (fun c44 => absurd c44 (by omega))
        refine g_iload dX9_learns_116 rfl ?_
        refine z_if_lt (tgt := 128) dX9_learns_118 (by decide) (by omega) (fun c118 => ?_) (fun c118 => absurd c118 (by omega))
        refine z_iinc dX9_learns_128 rfl (Nat.le_of_ble_eq_true rfl) ?_
        refine g_goto (tgt := 3) dX9_learns_131 (by decide) ?_
        exact ih2 M g1 m_d m_v hv ho fr h _ _
      · have hi1 : inc1 (incr t (ky xs n) s (g 2) (g 3) j) (ky xs n j) s (g 2) (g 3) = rse (incr t (ky xs n) s (g 2) (g 3) j) i s (g 2) (g 3) := by unfold inc1; rw [e1, e2, if_pos (by omega), Int.toNat_natCast]
        rw [hi1] at ih2
        obtain ⟨b1, b2⟩ := bnd i hi
        refine g_iload dX9_learns_3 rfl ?_
        refine g_aload_n dX9_learns_5 rfl ?_
        refine z_getf fl_X9_7 dX9_learns_6 m_d rfl ?_
        refine z_iconst dX9_learns_9 ?_
        refine z_iaload (j := 0) dX9_learns_10 m_v rfl (by omega) (by omega) ?_
        refine z_icmp_gt (tgt := 134) dX9_learns_11 (by decide) (by omega) (by omega) (fun c11 => absurd c11 (by omega)) (fun c11 => ?_)
        refine g_iload dX9_learns_14 rfl ?_
        refine g_iload_n dX9_learns_16 rfl ?_
        refine z_icmp_gt (tgt := 134) dX9_learns_17 (by decide) (by omega) (by omega) (fun c17 => absurd c17 (by omega)) (fun c17 => ?_)
        refine g_aload_n dX9_learns_20 rfl ?_
        refine g_aload_n dX9_learns_21 rfl ?_
        refine g_iload_n dX9_learns_22 rfl ?_
        refine g_iload dX9_learns_23 rfl ?_
        refine z_callVR dX9_learns_25 lm_X9_57 lk_X9_find ((r_find m_d m_v hv h hx hn hjo.2 (by omega)).eq (by rw [e3])) rfl rfl m_d rfl (mkRoom rfl rfl) (Nat.le_of_ble_eq_true rfl) (Nat.le_of_ble_eq_true rfl) (Nat.le_of_ble_eq_true rfl) ?_
        refine g_istore dX9_learns_28 (Nat.le_of_ble_eq_true rfl) ?_
        refine g_iload dX9_learns_30 rfl ?_
        refine z_if_ge (tgt := 116) dX9_learns_32 (by decide) (by omega) (fun c32 => ?_) (fun c32 => absurd c32 (by omega))
        refine g_iload dX9_learns_116 rfl ?_
        refine z_if_lt (tgt := 128) dX9_learns_118 (by decide) (by omega) (fun c118 => absurd c118 (by omega)) (fun c118 => ?_)
        refine g_aload_n dX9_learns_121 rfl ?_
        refine g_iload dX9_learns_122 rfl ?_
        refine g_iload_n dX9_learns_124 rfl ?_
        refine z_callVV dX9_learns_125 lm_X9_60 lk_X9_counts (r_counts (i := i) (s := s) m_d m_v (by omega) hs b1 b2 (by omega) (by omega)) rfl rfl m_d rfl (mkRoom rfl rfl) (Nat.le_of_ble_eq_true rfl) (Nat.le_of_ble_eq_true rfl) (Nat.le_of_ble_eq_true rfl) (fun M r hp => ?_)
        obtain ⟨rfl, ⟨g2, m_v, hg2, ho2⟩, fr2⟩ := hp
        have m_d := (fr2 _ (by omega)).trans m_d
        have h := h.by_ (fr2 _ (by omega))
        have fr : (∀ x : Nat, ¬ (x = d + 1) → M x = M0 x) := fun x hx => (fr2 x hx).trans (fr x hx)
        refine z_iinc dX9_learns_128 rfl (Nat.le_of_ble_eq_true rfl) ?_
        refine g_goto (tgt := 3) dX9_learns_131 (by decide) ?_
        refine ih2 M g2 m_d m_v (hv.raised hi hs (fun x hx => ?_) ho2) (ho.tr (fun x hx => ho2 x (by omega))) fr h _ _
        rw [hg2 x hx, h2, h3]
      · have hi1 : inc1 (incr t (ky xs n) s (g 2) (g 3) j) (ky xs n j) s (g 2) (g 3) = rse ((incr t (ky xs n) s (g 2) (g 3) j) ++ [(ky xs n j, fun _ => 0)]) ((incr t (ky xs n) s (g 2) (g 3) j)).length s (g 2) (g 3) := by unfold inc1; rw [e1, e2, if_pos (by omega), Int.toNat_natCast]
        rw [hi1] at ih2
        have hlen : ∃ L : Nat, L = ((incr t (ky xs n) s (g 2) (g 3) j)).length := ⟨_, rfl⟩
        obtain ⟨L, hL⟩ := hlen
        have eg4 : g1 4 = (L : Int) := by rw [hL]; exact v1
        have zl : ∀ (u y : Nat) (M : pM) (g2 : Nat → Int), y + u = 96 → M d = some (ro d pm ty lo ra mm lg co ec cd wr tc mo tk fm) → M (d + 1) = some (arI 25700 g2) → g2 (10 + L) = rk (cx xs n j) → (∀ x, x < y → gr g2 L x = 0) → (∀ x, x ≠ 10 + L → (x < 260 + 96 * L ∨ 260 + 96 * L + 96 ≤ x) → g2 x = g1 x) → (∀ x : Nat, ¬ (x = d + 1) → M x = M0 x) → Tx M q N xs → G I_X9_learns 0 0 (fun M' z' r' => z' = z ∧ r' = none ∧ ∃ g', M' (d + 1) = some (arI 25700 g') ∧ VM g' (incr t (ky xs n) s (g 2) (g 3) (nOrd (g 0) n)) ∧ VO g g' ∧ (∀ x : Nat, ¬ (x = d + 1) → M' x = M0 x)) 0 0 75 [some (.ref d), some (.ref q), some (vI (n : Int)), some (vI (s : Int)), some (vI (j : Int)), some (vI (L : Int)), some (vI (y : Int))] [] M z := by
          intro u
          induction u with
          | zero =>
            intro y M g2 hy m_d m_v z1 z2 z3 fr h
            have e : y = 96 := by omega
            subst e
            have z4 := z3 4 (by omega) (by omega)
            have z5 := z3 2 (by omega) (by omega)
            have z6 := z3 3 (by omega) (by omega)
            refine g_iload dX9_learns_75 rfl ?_
            refine z_bipush dX9_learns_77 (by decide +kernel) ?_
            refine z_icmp_ge (tgt := 106) dX9_learns_79 (by decide) (by omega) (by omega) (fun c79 => ?_) (fun c79 => absurd c79 (by omega))
            refine g_aload_n dX9_learns_106 rfl ?_
            refine z_getf fl_X9_7 dX9_learns_107 m_d rfl ?_
            refine z_iconst dX9_learns_110 ?_
            refine g_dup2 dX9_learns_111 rfl rfl ?_
            refine z_iaload (j := 4) dX9_learns_112 m_v rfl (by omega) (by omega) ?_
            refine z_iconst dX9_learns_113 ?_
            refine z_iadd dX9_learns_114 ?_
            refine z_iastore (j := 4) dX9_learns_115 m_v (by omega) (by omega) (by omega) (fun M m_v o => ?_)
            have m_d := (o _ (by omega)).trans m_d
            have fr : (∀ x : Nat, ¬ (x = d + 1) → M x = M0 x) := fun x hx => (o x (by omega)).trans (fr x hx)
            have h := h.by_ (o q hq)
            have hz0 : ∀ x, x < 96 → gr (upZ g2 4 (g2 4 + 1)) L x = 0 := fun x hx => by
              rw [show gr (upZ g2 4 (g2 4 + 1)) L x = gr g2 L x from upZ_n (by omega)]
              exact z2 x hx
            have hva : VM (upZ g2 4 (g2 4 + 1)) ((incr t (ky xs n) s (g 2) (g 3) j) ++ [(ky xs n j, fun _ => 0)]) := hv.app e4 hcx hcl (by rw [upZ_n (by omega), ← hL]; exact z1) (by rw [← hL]; exact hz0) (by rw [upZ_s, z4, eg4, hL]) (fun x a1 a2 a3 => by rw [upZ_n a1]; exact z3 x (by omega) (by omega))
            have hw0 : wt (gr (upZ g2 4 (g2 4 + 1)) L) = 0 := by rw [show wt (gr (upZ g2 4 (g2 4 + 1)) L) = wt (fun _ => 0) from sm_cong hz0]; exact wt_0
            have u2 : upZ g2 4 (g2 4 + 1) 2 = g2 2 := upZ_n (by omega)
            have u3 : upZ g2 4 (g2 4 + 1) 3 = g2 3 := upZ_n (by omega)
            refine g_iload dX9_learns_116 rfl ?_
            refine z_if_lt (tgt := 128) dX9_learns_118 (by decide) (by omega) (fun c118 => absurd c118 (by omega)) (fun c118 => ?_)
            refine g_aload_n dX9_learns_121 rfl ?_
            refine g_iload dX9_learns_122 rfl ?_
            refine g_iload_n dX9_learns_124 rfl ?_
            refine z_callVV dX9_learns_125 lm_X9_60 lk_X9_counts (r_counts (i := L) (s := s) m_d m_v (by omega) hs (fun x hx => by have := hz0 x hx; omega) (by omega) (by omega) (by omega)) rfl rfl m_d rfl (mkRoom rfl rfl) (Nat.le_of_ble_eq_true rfl) (Nat.le_of_ble_eq_true rfl) (Nat.le_of_ble_eq_true rfl) (fun M r hp => ?_)
            obtain ⟨rfl, ⟨g3, m_v, hg3, ho2⟩, fr2⟩ := hp
            have m_d := (fr2 _ (by omega)).trans m_d
            have h := h.by_ (fr2 _ (by omega))
            have fr : (∀ x : Nat, ¬ (x = d + 1) → M x = M0 x) := fun x hx => (fr2 x hx).trans (fr x hx)
            refine z_iinc dX9_learns_128 rfl (Nat.le_of_ble_eq_true rfl) ?_
            refine g_goto (tgt := 3) dX9_learns_131 (by decide) ?_
            have hra := hva.raised (i := L) (s := s) (stp := g 2) (lim := g 3) (g' := g3) (by rw [List.length_append, List.length_singleton, hL]; omega) hs (fun x hx => by rw [hg3 x hx, u2, u3, z5, z6, h2, h3]) ho2
            rw [← hL] at ih2
            refine ih2 M g3 m_d m_v hra (ho.tr (fun x hx => ?_)) fr h _ _
            rw [ho2 x (by omega), upZ_n (by omega)]
            exact z3 x (by omega) (by omega)
          | succ u ihz =>
            intro y M g2 hy m_d m_v z1 z2 z3 fr h
            refine g_iload dX9_learns_75 rfl ?_
            refine z_bipush dX9_learns_77 (by decide +kernel) ?_
            refine z_icmp_ge (tgt := 106) dX9_learns_79 (by decide) (by omega) (by omega) (fun c79 => absurd c79 (by omega)) (fun c79 => ?_)
            refine g_aload_n dX9_learns_82 rfl ?_
            refine z_getf fl_X9_7 dX9_learns_83 m_d rfl ?_
            refine z_sipush dX9_learns_86 (by decide +kernel) ?_
            refine z_bipush dX9_learns_89 (by decide +kernel) ?_
            refine g_iload dX9_learns_91 rfl ?_
            refine z_imul dX9_learns_93 ?_
            refine z_iadd dX9_learns_94 ?_
            refine g_iload dX9_learns_95 rfl ?_
            refine z_iadd dX9_learns_97 ?_
            refine z_iconst dX9_learns_98 ?_
            refine z_iastore (j := 260 + 96 * L + y) dX9_learns_99 m_v (by omega) (by omega) (by omega) (fun M m_v o => ?_)
            have m_d := (o _ (by omega)).trans m_d
            have fr : (∀ x : Nat, ¬ (x = d + 1) → M x = M0 x) := fun x hx => (o x (by omega)).trans (fr x hx)
            have h := h.by_ (o q hq)
            refine z_iinc dX9_learns_100 rfl (Nat.le_of_ble_eq_true rfl) ?_
            refine g_goto (tgt := 75) dX9_learns_103 (by decide) ?_
            refine ihz (y + 1) M _ (by omega) m_d m_v (by rw [upZ_n (by omega)]; exact z1) (fun x hx => ?_) (fun x a1 a2 => by rw [upZ_n (by omega)]; exact z3 x a1 a2) fr h
            rw [show gr (upZ g2 (260 + 96 * L + y) 0) L = upZ (gr g2 L) y 0 from gr_up]
            by_cases e : x = y
            · rw [e, upZ_s]
            · rw [upZ_n e]; exact z2 x (by omega)
        refine g_iload dX9_learns_3 rfl ?_
        refine g_aload_n dX9_learns_5 rfl ?_
        refine z_getf fl_X9_7 dX9_learns_6 m_d rfl ?_
        refine z_iconst dX9_learns_9 ?_
        refine z_iaload (j := 0) dX9_learns_10 m_v rfl (by omega) (by omega) ?_
        refine z_icmp_gt (tgt := 134) dX9_learns_11 (by decide) (by omega) (by omega) (fun c11 => absurd c11 (by omega)) (fun c11 => ?_)
        refine g_iload dX9_learns_14 rfl ?_
        refine g_iload_n dX9_learns_16 rfl ?_
        refine z_icmp_gt (tgt := 134) dX9_learns_17 (by decide) (by omega) (by omega) (fun c17 => absurd c17 (by omega)) (fun c17 => ?_)
        refine g_aload_n dX9_learns_20 rfl ?_
        refine g_aload_n dX9_learns_21 rfl ?_
        refine g_iload_n dX9_learns_22 rfl ?_
        refine g_iload dX9_learns_23 rfl ?_
        refine z_callVR dX9_learns_25 lm_X9_57 lk_X9_find ((r_find m_d m_v hv h hx hn hjo.2 (by omega)).eq (by rw [e3])) rfl rfl m_d rfl (mkRoom rfl rfl) (Nat.le_of_ble_eq_true rfl) (Nat.le_of_ble_eq_true rfl) (Nat.le_of_ble_eq_true rfl) ?_
        refine g_istore dX9_learns_28 (Nat.le_of_ble_eq_true rfl) ?_
        refine g_iload dX9_learns_30 rfl ?_
        refine z_if_ge (tgt := 116) dX9_learns_32 (by decide) (by omega) (fun c32 => absurd c32 (by omega)) (fun c32 => ?_)
        refine g_aload_n dX9_learns_35 rfl ?_
        refine z_getf fl_X9_7 dX9_learns_36 m_d rfl ?_
        refine z_iconst dX9_learns_39 ?_
        refine z_iaload (j := 4) dX9_learns_40 m_v rfl (by omega) (by omega) ?_
        refine z_sipush dX9_learns_41 (by decide +kernel) ?_
        refine z_icmp_ge (tgt := 116) dX9_learns_44 (by decide) (by omega) (by omega) (fun c44 => absurd c44 (by omega)) (fun c44 => ?_)
        refine g_aload_n dX9_learns_47 rfl ?_
        refine z_getf fl_X9_7 dX9_learns_48 m_d rfl ?_
        refine z_iconst dX9_learns_51 ?_
        refine z_iaload (j := 4) dX9_learns_52 m_v rfl (by omega) (by omega) ?_
        refine G.top (v' := vI (L : Int)) (by rw [eg4]) ?_
        refine g_istore dX9_learns_53 (Nat.le_of_ble_eq_true rfl) ?_
        refine g_aload_n dX9_learns_55 rfl ?_
        refine z_getf fl_X9_7 dX9_learns_56 m_d rfl ?_
        refine z_bipush dX9_learns_59 (by decide +kernel) ?_
        refine g_iload dX9_learns_61 rfl ?_
        refine z_iadd dX9_learns_63 ?_
        refine g_aload_n dX9_learns_64 rfl ?_
        refine g_iload_n dX9_learns_65 rfl ?_
        refine g_iload dX9_learns_66 rfl ?_
        refine z_callSR dX9_learns_68 lm_X9_45 lk_X9_keyOf (r_keyOf h hn hjo.2) rfl rfl (mkRoom rfl rfl) (Nat.le_of_ble_eq_true rfl) (Nat.le_of_ble_eq_true rfl) (Nat.le_of_ble_eq_true rfl) ?_
        refine z_iastore (j := 10 + L) dX9_learns_71 m_v (by omega) (by omega) (by omega) (fun M m_v o => ?_)
        have m_d := (o _ (by omega)).trans m_d
        have fr : (∀ x : Nat, ¬ (x = d + 1) → M x = M0 x) := fun x hx => (o x (by omega)).trans (fr x hx)
        have h := h.by_ (o q hq)
        refine z_iconst dX9_learns_72 ?_
        refine g_istore dX9_learns_73 (Nat.le_of_ble_eq_true rfl) ?_
        exact zl 96 0 M _ (by omega) m_d m_v upZ_s (fun x hx => absurd hx (Nat.not_lt_zero _)) (fun x a1 a2 => upZ_n a1) fr h
  refine z_iconst dX9_learns_0 ?_
  refine g_istore dX9_learns_1 (Nat.le_of_ble_eq_true rfl) ?_
  exact loop (nOrd (g 0) n) 0 M0 g (by omega) m_d m_v hv VO.rf fr h _ _
