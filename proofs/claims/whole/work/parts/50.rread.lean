/-! the reference: reading a code -/
def CB (g : Nat → Int) (cs : List Int) : Prop := g 5 = (cs.length : Int) ∧ cs.length ≤ 400 ∧ ∀ k : Nat, k < cs.length → g (24260 + k) = cs.getD k 0
theorem CB.by_ {g g' : Nat → Int} {cs : List Int} (h : CB g cs) (e : VO g g') : CB g' cs := ⟨(e 5 (by omega)).trans h.1, h.2.1, fun k hk => (e _ (by omega)).trans (h.2.2 k hk)⟩
theorem dsf_0 (cs : List Int) (d : ds) : dsf cs 0 d = d := rfl
theorem dsf_s {cs : List Int} {n : Nat} {d : ds} (h : d.2.2 ≤ 16777216) : dsf cs (n + 1) d = dsf cs n ((sh1 cs d).1, (sh1 cs d).2.1, d.2.2 * 256) := by rw [dsf, if_pos h]
theorem dsf_e {cs : List Int} {n : Nat} {d : ds} (h : ¬ d.2.2 ≤ 16777216) : dsf cs (n + 1) d = d := by rw [dsf, if_neg h]
set_option maxHeartbeats 1000000 in
theorem r_target {M0 : pM} {z d : Nat} {pm ty lo mm lg co ec cd wr tc fm : Int} {D : ds} (m_d : M0 d = some (ro d pm ty lo D.2.2 mm lg co ec cd wr tc D.2.1 (D.1 : Int) fm)) {n : Nat} {t : Int} (hk : okD D n) (ht : 1 ≤ t ∧ t ≤ 65536) : CR I_X9_target yX9_target [.ref d, vI t] M0 z (some (vI (dnum D t))) := by
  obtain ⟨k1, k2, k3⟩ := hk
  have hq : 256 ≤ D.2.2 / t := by rw [Int.le_ediv_iff_mul_le (by omega)]; omega
  have hq2 : D.2.2 / t ≤ D.2.2 := Int.ediv_le_self _ (by omega)
  have hd1 : 0 ≤ D.2.1 / (D.2.2 / t) := Int.ediv_nonneg k2.1 (by omega)
  have hd2 : D.2.1 / (D.2.2 / t) ≤ D.2.1 := Int.ediv_le_self _ k2.1
  refine C.intro (pl := [some (.ref d), some (vI t), none, none]) pn_X9 rfl (fun h => absurd h (by decide)) rfl (Nat.le_of_ble_eq_true rfl) rfl ?_
  refine g_aload_n dX9_target_0 rfl ?_
  refine z_getf fl_X9_183 dX9_target_1 m_d rfl ?_
  refine g_aload_n dX9_target_4 rfl ?_
  refine z_getf fl_X9_70 dX9_target_5 m_d rfl ?_
  refine g_iload_n dX9_target_8 rfl ?_
  refine z_i2l dX9_target_9 (by omega) ?_
  refine z_ldiv dX9_target_10 (by omega) (by omega) ?_
  refine z_ldiv dX9_target_11 (by omega) (by omega) ?_
  refine g_lstore_n dX9_target_12 rfl (Nat.le_of_ble_eq_true rfl) ?_
  refine g_lload_n dX9_target_13 rfl ?_
  refine g_iload_n dX9_target_14 rfl ?_
  refine z_i2l dX9_target_15 (by omega) ?_
  refine z_lconst (a := 1) dX9_target_16 rfl ?_
  refine z_lsub dX9_target_17 ?_
  refine z_lcmp dX9_target_18 (by omega) (by omega) (fun c18 => ?_) (fun c18 => ?_) (fun c18 => ?_)
  · refine z_if_le (tgt := 28) dX9_target_19 (by decide) (by decide) (fun q => absurd q (by decide)) (fun _ => ?_)
    refine g_iload_n dX9_target_22 rfl ?_
    refine z_iconst dX9_target_23 ?_
    refine z_isub dX9_target_24 ?_
    refine g_goto (tgt := 30) dX9_target_25 (by decide) ?_
    exact g_ireturn dX9_target_30 rfl (Nat.le_of_ble_eq_true rfl) (Nat.le_of_ble_eq_true rfl) ⟨rfl, rfl, by rw [show dnum D t = (t - 1) by unfold dnum; omega]⟩
  · refine z_if_le (tgt := 28) dX9_target_19 (by decide) (by decide) (fun _ => ?_) (fun q => absurd q (by decide))
    refine g_lload_n dX9_target_28 rfl ?_
    refine z_l2i dX9_target_29 (by omega) ?_
    exact g_ireturn dX9_target_30 rfl (Nat.le_of_ble_eq_true rfl) (Nat.le_of_ble_eq_true rfl) ⟨rfl, rfl, by rw [show dnum D t = (D.2.1 / (D.2.2 / t)) by unfold dnum; omega]⟩
  · refine z_if_le (tgt := 28) dX9_target_19 (by decide) (by decide) (fun _ => ?_) (fun q => absurd q (by decide))
    refine g_lload_n dX9_target_28 rfl ?_
    refine z_l2i dX9_target_29 (by omega) ?_
    exact g_ireturn dX9_target_30 rfl (Nat.le_of_ble_eq_true rfl) (Nat.le_of_ble_eq_true rfl) ⟨rfl, rfl, by rw [show dnum D t = (D.2.1 / (D.2.2 / t)) by unfold dnum; omega]⟩
set_option maxHeartbeats 1000000 in
theorem r_nextByte {M0 : pM} {z d n : Nat} {pm ty lo ra mm lg co ec cd wr tc mo fm : Int} (m_d : M0 d = some (ro d pm ty lo ra mm lg co ec cd wr tc mo (n : Int) fm)) {g : Nat → Int} (m_v : M0 (d + 1) = some (arI 25700 g)) {cs : List Int} (hc : CB g cs) (hn : n < 1000000) : CW I_X9_nextByte yX9_nextByte [.ref d] M0 z (fun M' r => r = some (vI (cs.getD n 0)) ∧ M' d = some (ro d pm ty lo ra mm lg co ec cd wr tc mo ((n + 1 : Nat) : Int) fm) ∧ (∀ x : Nat, ¬ (x = d) → M' x = M0 x)) := by
  have fr : (∀ x : Nat, ¬ (x = d) → M0 x = M0 x) := fun _ _ => rfl
  obtain ⟨hc1, hc2, hc3⟩ := hc
  refine C.intro (pl := [some (.ref d), none]) pn_X9 rfl (fun h => absurd h (by decide)) rfl (Nat.le_of_ble_eq_true rfl) rfl ?_
  by_cases hn2 : n < cs.length
  · have hgn := hc3 n hn2
    rw [← hgn]
    refine g_aload_n dX9_nextByte_0 rfl ?_
    refine z_getf fl_X9_180 dX9_nextByte_1 m_d rfl ?_
    refine g_aload_n dX9_nextByte_4 rfl ?_
    refine z_getf fl_X9_7 dX9_nextByte_5 m_d rfl ?_
    refine z_iconst dX9_nextByte_8 ?_
    refine z_iaload (j := 5) dX9_nextByte_9 m_v rfl (by omega) (by omega) ?_
    refine z_icmp_ge (tgt := 29) dX9_nextByte_10 (by decide) (by omega) (by omega) (fun c10 => absurd c10 (by omega)) (fun c10 => ?_)
    refine g_aload_n dX9_nextByte_13 rfl ?_
    refine z_getf fl_X9_7 dX9_nextByte_14 m_d rfl ?_
    refine z_sipush dX9_nextByte_17 (by decide +kernel) ?_
    refine g_aload_n dX9_nextByte_20 rfl ?_
    refine z_getf fl_X9_180 dX9_nextByte_21 m_d rfl ?_
    refine z_iadd dX9_nextByte_24 ?_
    refine z_iaload (j := 24260 + n) dX9_nextByte_25 m_v (by omega) (by omega) (by omega) ?_
    refine g_goto (tgt := 30) dX9_nextByte_26 (by decide) ?_
    refine g_istore_n dX9_nextByte_30 rfl (Nat.le_of_ble_eq_true rfl) ?_
    refine g_aload_n dX9_nextByte_31 rfl ?_
    refine g_dup dX9_nextByte_32 rfl ?_
    refine z_getf fl_X9_180 dX9_nextByte_33 m_d rfl ?_
    refine z_iconst dX9_nextByte_36 ?_
    refine z_iadd dX9_nextByte_37 ?_
    refine z_putf fl_X9_180 dX9_nextByte_38 m_d rfl (Nat.le_of_ble_eq_true rfl) rfl rfl (fun M m_d o => ?_)
    have m_v := (o _ (by omega)).trans m_v
    have fr : (∀ x : Nat, ¬ (x = d) → M x = M0 x) := fun x hx => (o x (by omega)).trans (fr x hx)
    refine g_iload_n dX9_nextByte_41 rfl ?_
    exact g_ireturn dX9_nextByte_42 rfl (Nat.le_of_ble_eq_true rfl) (Nat.le_of_ble_eq_true rfl) ⟨rfl, rfl, m_d, fr⟩
  · have hgn : cs.getD n 0 = 0 := by rw [List.getD_eq_getElem?_getD, List.getElem?_eq_none (by omega)]; rfl
    rw [hgn]
    refine g_aload_n dX9_nextByte_0 rfl ?_
    refine z_getf fl_X9_180 dX9_nextByte_1 m_d rfl ?_
    refine g_aload_n dX9_nextByte_4 rfl ?_
    refine z_getf fl_X9_7 dX9_nextByte_5 m_d rfl ?_
    refine z_iconst dX9_nextByte_8 ?_
    refine z_iaload (j := 5) dX9_nextByte_9 m_v rfl (by omega) (by omega) ?_
    refine z_icmp_ge (tgt := 29) dX9_nextByte_10 (by decide) (by omega) (by omega) (fun c10 => ?_) (fun c10 => absurd c10 (by omega))
    refine z_iconst dX9_nextByte_29 ?_
    refine g_istore_n dX9_nextByte_30 rfl (Nat.le_of_ble_eq_true rfl) ?_
    refine g_aload_n dX9_nextByte_31 rfl ?_
    refine g_dup dX9_nextByte_32 rfl ?_
    refine z_getf fl_X9_180 dX9_nextByte_33 m_d rfl ?_
    refine z_iconst dX9_nextByte_36 ?_
    refine z_iadd dX9_nextByte_37 ?_
    refine z_putf fl_X9_180 dX9_nextByte_38 m_d rfl (Nat.le_of_ble_eq_true rfl) rfl rfl (fun M m_d o => ?_)
    have m_v := (o _ (by omega)).trans m_v
    have fr : (∀ x : Nat, ¬ (x = d) → M x = M0 x) := fun x hx => (o x (by omega)).trans (fr x hx)
    refine g_iload_n dX9_nextByte_41 rfl ?_
    exact g_ireturn dX9_nextByte_42 rfl (Nat.le_of_ble_eq_true rfl) (Nat.le_of_ble_eq_true rfl) ⟨rfl, rfl, m_d, fr⟩
set_option maxHeartbeats 1000000 in
theorem r_reads {M0 : pM} {z d : Nat} {pm ty lo mm lg co ec cd wr tc fm : Int} {D : ds} (m_d : M0 d = some (ro d pm ty lo D.2.2 mm lg co ec cd wr tc D.2.1 (D.1 : Int) fm)) {g : Nat → Int} (m_v : M0 (d + 1) = some (arI 25700 g)) {cs : List Int} {a b t : Int} {n : Nat} (hc : CB g cs) (hb : okB cs) (hk : okD D n) (hn : n < 100000) (hx : okI (a, b, t)) (hnu : a ≤ dnum D t ∧ dnum D t < b) : CW I_X9_reads yX9_reads [.ref d, vI a, vI b, vI t] M0 z (fun M' r => r = none ∧ M' d = some (ro d pm ty lo (div_ cs D (a, b, t)).2.2 mm lg co ec cd wr tc (div_ cs D (a, b, t)).2.1 ((div_ cs D (a, b, t)).1 : Int) fm) ∧ (∀ x : Nat, ¬ (x = d) → M' x = M0 x)) := by
  have hdx := okD_x hk hx hnu
  obtain ⟨k1, k2, k3⟩ := id hk
  obtain ⟨q1, q2, q3, q4, q5, q6, q7⟩ := ivr_b k3 hx
  obtain ⟨u1, u2, u3, u4⟩ := id hx
  have hE : (div_ cs D (a, b, t)) = dsf cs 4 (D.1, D.2.1 - D.2.2 / t * a, ivr D.2.2 (a, b, t)) := rfl
  dsimp only at hdx q1 q2 q3 q4 q5 q6 q7 u1 u2 u3 u4
  generalize (div_ cs D (a, b, t)) = E at hE ⊢
  have fr : (∀ x : Nat, ¬ (x = d) → M0 x = M0 x) := fun _ _ => rfl
  refine C.intro (pl := [some (.ref d), some (vI a), some (vI b), some (vI t), none, none]) pn_X9 rfl (fun h => absurd h (by decide)) rfl (Nat.le_of_ble_eq_true rfl) rfl ?_
  have sl : ∀ (k : Nat) (F : ds) (M : pM), 0 ≤ F.2.1 ∧ F.2.1 < F.2.2 → 1 ≤ F.2.2 ∧ F.2.2 ≤ 4294967296 → 16777216 < F.2.2 * 256 ^ k → F.1 + k < 1000000 → E = dsf cs k F → M (d + 1) = some (arI 25700 g) → M d = some (ro d pm ty lo F.2.2 mm lg co ec cd wr tc F.2.1 (F.1 : Int) fm) → (∀ x : Nat, ¬ (x = d) → M x = M0 x) → ∀ K : Option Value, G I_X9_reads 0 0 (fun M' z' r' => z' = z ∧ r' = none ∧ M' d = some (ro d pm ty lo E.2.2 mm lg co ec cd wr tc E.2.1 (E.1 : Int) fm) ∧ (∀ x : Nat, ¬ (x = d) → M' x = M0 x)) 0 0 52 [some (.ref d), some (vI a), some (vI b), some (vI t), K, none] [] M z := by
    intro k
    induction k with
    | zero =>
      intro F M h1 h2 h3 h4 hs m_v m_d fr K
      rw [Int.pow_zero, Int.mul_one] at h3
      rw [dsf_0] at hs
      rw [← hs] at m_d h3 h2
      refine g_aload_n dX9_reads_52 rfl ?_
      refine z_getf fl_X9_70 dX9_reads_53 m_d rfl ?_
      refine z_ldc2 (16777216) dX9_reads_56 kc_X9_82 rfl ?_
      refine z_lcmp dX9_reads_59 (by omega) (by omega) (fun c59 => ?_) (fun c59 => ?_) (fun c59 => ?_)
      · refine z_if_gt (tgt := 100) dX9_reads_60 (by decide) (by decide) (fun _ => ?_) (fun q => absurd q (by decide))
        exact g_return dX9_reads_100 rfl (Nat.le_of_ble_eq_true rfl) (Nat.le_of_ble_eq_true rfl) ⟨rfl, rfl, m_d, fr⟩
      · refine z_if_gt (tgt := 100) dX9_reads_60 (by decide) (by decide) (fun q => absurd q (by decide)) (fun _ => ?_)
        exfalso; omega
      · refine z_if_gt (tgt := 100) dX9_reads_60 (by decide) (by decide) (fun q => absurd q (by decide)) (fun _ => ?_)
        exfalso; omega
    | succ k ih =>
      intro F M h1 h2 h3 h4 hs m_v m_d fr K
      by_cases hr : F.2.2 ≤ 16777216
      · rw [dsf_s hr] at hs
        have hsb := sh1_b hb h1 ⟨h2.1, hr⟩
        have hbt := hb.get F.1
        refine g_aload_n dX9_reads_52 rfl ?_
        refine z_getf fl_X9_70 dX9_reads_53 m_d rfl ?_
        refine z_ldc2 (16777216) dX9_reads_56 kc_X9_82 rfl ?_
        refine z_lcmp dX9_reads_59 (by omega) (by omega) (fun c59 => ?_) (fun c59 => ?_) (fun c59 => ?_)
        · refine z_if_gt (tgt := 100) dX9_reads_60 (by decide) (by decide) (fun _ => ?_) (fun q => absurd q (by decide))
          exfalso; omega
        · refine z_if_gt (tgt := 100) dX9_reads_60 (by decide) (by decide) (fun q => absurd q (by decide)) (fun _ => ?_)
          refine g_aload_n dX9_reads_63 rfl ?_
          refine g_aload_n dX9_reads_64 rfl ?_
          refine z_getf fl_X9_183 dX9_reads_65 m_d rfl ?_
          refine z_ldc2 (256) dX9_reads_68 kc_X9_84 rfl ?_
          refine z_lmul dX9_reads_71 ?_
          refine g_aload_n dX9_reads_72 rfl ?_
          refine z_callVV dX9_reads_73 lm_X9_186 lk_X9_nextByte (r_nextByte (n := F.1) m_d m_v hc (by omega)) rfl rfl m_d rfl (mkRoom rfl rfl) (Nat.le_of_ble_eq_true rfl) (Nat.le_of_ble_eq_true rfl) (Nat.le_of_ble_eq_true rfl) (fun M r hp => ?_)
          obtain ⟨rfl, m_d, o1⟩ := hp
          have m_v := (o1 _ (by omega)).trans m_v
          have fr : (∀ x : Nat, ¬ (x = d) → M x = M0 x) := fun x hx => (o1 x (by omega)).trans (fr x hx)
          refine z_i2l dX9_reads_76 (by omega) ?_
          refine z_ladd dX9_reads_77 ?_
          refine z_ldc2 (4294967296) dX9_reads_78 kc_X9_68 rfl ?_
          refine z_lrem dX9_reads_81 (by omega) (by omega) ?_
          refine z_putf fl_X9_183 dX9_reads_82 m_d rfl (Nat.le_of_ble_eq_true rfl) rfl rfl (fun M m_d o => ?_)
          have m_v := (o _ (by omega)).trans m_v
          have fr : (∀ x : Nat, ¬ (x = d) → M x = M0 x) := fun x hx => (o x (by omega)).trans (fr x hx)
          refine g_aload_n dX9_reads_85 rfl ?_
          refine g_dup dX9_reads_86 rfl ?_
          refine z_getf fl_X9_70 dX9_reads_87 m_d rfl ?_
          refine z_ldc2 (256) dX9_reads_90 kc_X9_84 rfl ?_
          refine z_lmul dX9_reads_93 ?_
          refine z_putf fl_X9_70 dX9_reads_94 m_d rfl (Nat.le_of_ble_eq_true rfl) rfl rfl (fun M m_d o => ?_)
          have m_v := (o _ (by omega)).trans m_v
          have fr : (∀ x : Nat, ¬ (x = d) → M x = M0 x) := fun x hx => (o x (by omega)).trans (fr x hx)
          refine g_goto (tgt := 52) dX9_reads_97 (by decide) ?_
          refine ih ((sh1 cs F).1, (sh1 cs F).2.1, F.2.2 * 256) M hsb (by dsimp only; omega) (by dsimp only; rw [Int.mul_assoc, ← Int.pow_succ']; exact h3) (by show F.1 + 1 + k < 1000000; omega) hs m_v m_d fr K
        · refine z_if_gt (tgt := 100) dX9_reads_60 (by decide) (by decide) (fun q => absurd q (by decide)) (fun _ => ?_)
          refine g_aload_n dX9_reads_63 rfl ?_
          refine g_aload_n dX9_reads_64 rfl ?_
          refine z_getf fl_X9_183 dX9_reads_65 m_d rfl ?_
          refine z_ldc2 (256) dX9_reads_68 kc_X9_84 rfl ?_
          refine z_lmul dX9_reads_71 ?_
          refine g_aload_n dX9_reads_72 rfl ?_
          refine z_callVV dX9_reads_73 lm_X9_186 lk_X9_nextByte (r_nextByte (n := F.1) m_d m_v hc (by omega)) rfl rfl m_d rfl (mkRoom rfl rfl) (Nat.le_of_ble_eq_true rfl) (Nat.le_of_ble_eq_true rfl) (Nat.le_of_ble_eq_true rfl) (fun M r hp => ?_)
          obtain ⟨rfl, m_d, o1⟩ := hp
          have m_v := (o1 _ (by omega)).trans m_v
          have fr : (∀ x : Nat, ¬ (x = d) → M x = M0 x) := fun x hx => (o1 x (by omega)).trans (fr x hx)
          refine z_i2l dX9_reads_76 (by omega) ?_
          refine z_ladd dX9_reads_77 ?_
          refine z_ldc2 (4294967296) dX9_reads_78 kc_X9_68 rfl ?_
          refine z_lrem dX9_reads_81 (by omega) (by omega) ?_
          refine z_putf fl_X9_183 dX9_reads_82 m_d rfl (Nat.le_of_ble_eq_true rfl) rfl rfl (fun M m_d o => ?_)
          have m_v := (o _ (by omega)).trans m_v
          have fr : (∀ x : Nat, ¬ (x = d) → M x = M0 x) := fun x hx => (o x (by omega)).trans (fr x hx)
          refine g_aload_n dX9_reads_85 rfl ?_
          refine g_dup dX9_reads_86 rfl ?_
          refine z_getf fl_X9_70 dX9_reads_87 m_d rfl ?_
          refine z_ldc2 (256) dX9_reads_90 kc_X9_84 rfl ?_
          refine z_lmul dX9_reads_93 ?_
          refine z_putf fl_X9_70 dX9_reads_94 m_d rfl (Nat.le_of_ble_eq_true rfl) rfl rfl (fun M m_d o => ?_)
          have m_v := (o _ (by omega)).trans m_v
          have fr : (∀ x : Nat, ¬ (x = d) → M x = M0 x) := fun x hx => (o x (by omega)).trans (fr x hx)
          refine g_goto (tgt := 52) dX9_reads_97 (by decide) ?_
          refine ih ((sh1 cs F).1, (sh1 cs F).2.1, F.2.2 * 256) M hsb (by dsimp only; omega) (by dsimp only; rw [Int.mul_assoc, ← Int.pow_succ']; exact h3) (by show F.1 + 1 + k < 1000000; omega) hs m_v m_d fr K
      · rw [dsf_e hr] at hs
        rw [← hs] at m_d h1 h2 hr
        refine g_aload_n dX9_reads_52 rfl ?_
        refine z_getf fl_X9_70 dX9_reads_53 m_d rfl ?_
        refine z_ldc2 (16777216) dX9_reads_56 kc_X9_82 rfl ?_
        refine z_lcmp dX9_reads_59 (by omega) (by omega) (fun c59 => ?_) (fun c59 => ?_) (fun c59 => ?_)
        · refine z_if_gt (tgt := 100) dX9_reads_60 (by decide) (by decide) (fun _ => ?_) (fun q => absurd q (by decide))
          exact g_return dX9_reads_100 rfl (Nat.le_of_ble_eq_true rfl) (Nat.le_of_ble_eq_true rfl) ⟨rfl, rfl, m_d, fr⟩
        · refine z_if_gt (tgt := 100) dX9_reads_60 (by decide) (by decide) (fun q => absurd q (by decide)) (fun _ => ?_)
          exfalso; omega
        · refine z_if_gt (tgt := 100) dX9_reads_60 (by decide) (by decide) (fun q => absurd q (by decide)) (fun _ => ?_)
          exfalso; omega
  refine g_aload_n dX9_reads_0 rfl ?_
  refine z_getf fl_X9_70 dX9_reads_1 m_d rfl ?_
  refine g_iload_n dX9_reads_4 rfl ?_
  refine z_i2l dX9_reads_5 (by omega) ?_
  refine z_ldiv dX9_reads_6 (by omega) (by omega) ?_
  refine g_lstore dX9_reads_7 (Nat.le_of_ble_eq_true rfl) ?_
  refine g_aload_n dX9_reads_9 rfl ?_
  refine g_dup dX9_reads_10 rfl ?_
  refine z_getf fl_X9_183 dX9_reads_11 m_d rfl ?_
  refine g_lload dX9_reads_14 rfl ?_
  refine g_iload_n dX9_reads_16 rfl ?_
  refine z_i2l dX9_reads_17 (by omega) ?_
  refine z_lmul dX9_reads_18 ?_
  refine z_lsub dX9_reads_19 ?_
  refine z_putf fl_X9_183 dX9_reads_20 m_d rfl (Nat.le_of_ble_eq_true rfl) rfl rfl (fun M m_d o => ?_)
  have m_v := (o _ (by omega)).trans m_v
  have fr : (∀ x : Nat, ¬ (x = d) → M x = M0 x) := fun x hx => (o x (by omega)).trans (fr x hx)
  refine g_aload_n dX9_reads_23 rfl ?_
  refine g_iload_n dX9_reads_24 rfl ?_
  refine g_iload_n dX9_reads_25 rfl ?_
  refine z_icmp_ge (tgt := 39) dX9_reads_26 (by decide) (by omega) (by omega) (fun c26 => ?_) (fun c26 => ?_)
  · refine g_aload_n dX9_reads_39 rfl ?_
    refine z_getf fl_X9_70 dX9_reads_40 m_d rfl ?_
    refine g_lload dX9_reads_43 rfl ?_
    refine g_iload_n dX9_reads_45 rfl ?_
    refine z_i2l dX9_reads_46 (by omega) ?_
    refine z_lmul dX9_reads_47 ?_
    refine z_lsub dX9_reads_48 ?_
    refine z_putf fl_X9_70 dX9_reads_49 m_d rfl (Nat.le_of_ble_eq_true rfl) rfl rfl (fun M m_d o => ?_)
    have m_v := (o _ (by omega)).trans m_v
    have fr : (∀ x : Nat, ¬ (x = d) → M x = M0 x) := fun x hx => (o x (by omega)).trans (fr x hx)
    rw [(q7 (by omega))] at hE hdx q4 q5
    exact sl 4 (D.1, D.2.1 - D.2.2 / t * a, (D.2.2 - ((D.2.2 / t) * a))) M (by dsimp only; omega) (by dsimp only; omega) (by dsimp only; omega) (by dsimp only; omega) hE m_v m_d fr _
  · refine g_lload dX9_reads_29 rfl ?_
    refine g_iload_n dX9_reads_31 rfl ?_
    refine g_iload_n dX9_reads_32 rfl ?_
    refine z_isub dX9_reads_33 ?_
    refine z_i2l dX9_reads_34 (by omega) ?_
    refine z_lmul dX9_reads_35 ?_
    refine g_goto (tgt := 49) dX9_reads_36 (by decide) ?_
    refine z_putf fl_X9_70 dX9_reads_49 m_d rfl (Nat.le_of_ble_eq_true rfl) rfl rfl (fun M m_d o => ?_)
    have m_v := (o _ (by omega)).trans m_v
    have fr : (∀ x : Nat, ¬ (x = d) → M x = M0 x) := fun x hx => (o x (by omega)).trans (fr x hx)
    rw [(q6 (by omega))] at hE hdx q4 q5
    exact sl 4 (D.1, D.2.1 - D.2.2 / t * a, ((D.2.2 / t) * (b - a))) M (by dsimp only; omega) (by dsimp only; omega) (by dsimp only; omega) (by dsimp only; omega) hE m_v m_d fr _
set_option maxHeartbeats 1000000 in
theorem r_isCode {M0 : pM} {z d : Nat} {pm ty lo ra lg co ec cd wr tc mo tk fm : Int} {out cs : List Int} (m_d : M0 d = some (ro d pm ty lo ra (out.length : Int) lg co ec cd wr tc mo tk fm)) {g : Nat → Int} (m_v : M0 (d + 1) = some (arI 25700 g)) (hm : Ma M0 d out) (hc : CB g cs) (hb : okB cs) (hb2 : okB out) : CR I_X9_isCode yX9_isCode [.ref d] M0 z (some (vI (if out = cs then 1 else 0))) := by
  obtain ⟨gm, m_ma, hm1, hm2⟩ := hm
  obtain ⟨hc1, hc2, hc3⟩ := hc
  refine C.intro (pl := [some (.ref d), none, none]) pn_X9 rfl (fun h => absurd h (by decide)) rfl (Nat.le_of_ble_eq_true rfl) rfl ?_
  by_cases hl : out.length = cs.length
  · have loop : ∀ (u k : Nat), k + u = out.length → (∀ i, i < k → out.getD i 0 = cs.getD i 0) → G I_X9_isCode 0 0 (fun M' z' r' => M' = M0 ∧ z' = z ∧ r' = some (vI (if out = cs then 1 else 0))) 0 0 21 [some (.ref d), some (vI 1), some (vI (k : Int))] [] M0 z := by
      intro u
      induction u with
      | zero =>
        intro k hk he
        have e : k = out.length := by omega
        subst e
        have eq : out = cs := List.ext_getElem hl (fun i h1 h2 => by
          have := he i h1
          rw [List.getD_eq_getElem?_getD, List.getD_eq_getElem?_getD, List.getElem?_eq_getElem h1, List.getElem?_eq_getElem h2] at this
          exact this)
        rw [if_pos eq]
        refine g_iload_n dX9_isCode_21 rfl ?_
        refine g_aload_n dX9_isCode_22 rfl ?_
        refine z_getf fl_X9_73 dX9_isCode_23 m_d rfl ?_
        refine z_icmp_ge (tgt := 64) dX9_isCode_26 (by decide) (by omega) (by omega) (fun c26 => ?_) (fun c26 => absurd c26 (by omega))
        refine g_iload_n dX9_isCode_64 rfl ?_
        exact g_zreturn dX9_isCode_65 rfl (by first | rfl | decide) (Nat.le_of_ble_eq_true rfl) (Nat.le_of_ble_eq_true rfl) ⟨rfl, rfl, rfl⟩
      | succ u ih =>
        intro k hk he
        have hmk := hm2 k (by omega)
        have hck := hc3 k (by omega)
        have hb3 := hb.get k
        have hb4 := hb2.get k
        by_cases hq : out.getD k 0 = cs.getD k 0
        · have ih2 := ih (k + 1) (by omega) (fun i hi => by
            by_cases e : i = k
            · rw [e]; exact hq
            · exact he i (by omega))
          refine g_iload_n dX9_isCode_21 rfl ?_
          refine g_aload_n dX9_isCode_22 rfl ?_
          refine z_getf fl_X9_73 dX9_isCode_23 m_d rfl ?_
          refine z_icmp_ge (tgt := 64) dX9_isCode_26 (by decide) (by omega) (by omega) (fun c26 => absurd c26 (by omega)) (fun c26 => ?_)
          refine g_iload_n dX9_isCode_29 rfl ?_
          refine z_if_eq (tgt := 64) dX9_isCode_30 (by decide) (by omega) (fun c30 => absurd c30 (by omega)) (fun c30 => ?_)
          refine g_aload_n dX9_isCode_33 rfl ?_
          refine z_getf fl_X9_23 dX9_isCode_34 m_d rfl ?_
          refine g_iload_n dX9_isCode_37 rfl ?_
          refine z_iaload (j := k) dX9_isCode_38 m_ma rfl (by omega) (by omega) ?_
          refine g_aload_n dX9_isCode_39 rfl ?_
          refine z_getf fl_X9_7 dX9_isCode_40 m_d rfl ?_
          refine z_sipush dX9_isCode_43 (by decide +kernel) ?_
          refine g_iload_n dX9_isCode_46 rfl ?_
          refine z_iadd dX9_isCode_47 ?_
          refine z_iaload (j := 24260 + k) dX9_isCode_48 m_v (by omega) (by omega) (by omega) ?_
          refine z_icmp_ne (tgt := 56) dX9_isCode_49 (by decide) (by omega) (by omega) (fun c49 => absurd c49 (by omega)) (fun c49 => ?_)
          refine z_iconst dX9_isCode_52 ?_
          refine g_goto (tgt := 57) dX9_isCode_53 (by decide) ?_
          refine g_istore_n dX9_isCode_57 rfl (Nat.le_of_ble_eq_true rfl) ?_
          refine z_iinc dX9_isCode_58 rfl (Nat.le_of_ble_eq_true rfl) ?_
          refine g_goto (tgt := 21) dX9_isCode_61 (by decide) ?_
          exact ih2
        · have hne : out ≠ cs := fun q => hq (by rw [q])
          rw [if_neg hne]
          refine g_iload_n dX9_isCode_21 rfl ?_
          refine g_aload_n dX9_isCode_22 rfl ?_
          refine z_getf fl_X9_73 dX9_isCode_23 m_d rfl ?_
          refine z_icmp_ge (tgt := 64) dX9_isCode_26 (by decide) (by omega) (by omega) (fun c26 => absurd c26 (by omega)) (fun c26 => ?_)
          refine g_iload_n dX9_isCode_29 rfl ?_
          refine z_if_eq (tgt := 64) dX9_isCode_30 (by decide) (by omega) (fun c30 => absurd c30 (by omega)) (fun c30 => ?_)
          refine g_aload_n dX9_isCode_33 rfl ?_
          refine z_getf fl_X9_23 dX9_isCode_34 m_d rfl ?_
          refine g_iload_n dX9_isCode_37 rfl ?_
          refine z_iaload (j := k) dX9_isCode_38 m_ma rfl (by omega) (by omega) ?_
          refine g_aload_n dX9_isCode_39 rfl ?_
          refine z_getf fl_X9_7 dX9_isCode_40 m_d rfl ?_
          refine z_sipush dX9_isCode_43 (by decide +kernel) ?_
          refine g_iload_n dX9_isCode_46 rfl ?_
          refine z_iadd dX9_isCode_47 ?_
          refine z_iaload (j := 24260 + k) dX9_isCode_48 m_v (by omega) (by omega) (by omega) ?_
          refine z_icmp_ne (tgt := 56) dX9_isCode_49 (by decide) (by omega) (by omega) (fun c49 => ?_) (fun c49 => absurd c49 (by omega))
          refine z_iconst dX9_isCode_56 ?_
          refine g_istore_n dX9_isCode_57 rfl (Nat.le_of_ble_eq_true rfl) ?_
          refine z_iinc dX9_isCode_58 rfl (Nat.le_of_ble_eq_true rfl) ?_
          refine g_goto (tgt := 21) dX9_isCode_61 (by decide) ?_
          refine g_iload_n dX9_isCode_21 rfl ?_
          refine g_aload_n dX9_isCode_22 rfl ?_
          refine z_getf fl_X9_73 dX9_isCode_23 m_d rfl ?_
          refine z_icmp_ge (tgt := 64) dX9_isCode_26 (by decide) (by omega) (by omega) (fun c26 => ?_) (fun c26 => ?_)
          · refine g_iload_n dX9_isCode_64 rfl ?_
            exact g_zreturn dX9_isCode_65 rfl (by first | rfl | decide) (Nat.le_of_ble_eq_true rfl) (Nat.le_of_ble_eq_true rfl) ⟨rfl, rfl, rfl⟩
          · refine g_iload_n dX9_isCode_29 rfl ?_
            refine z_if_eq (tgt := 64) dX9_isCode_30 (by decide) (by omega) (fun c30 => ?_) (fun c30 => absurd c30 (by omega))
            refine g_iload_n dX9_isCode_64 rfl ?_
            exact g_zreturn dX9_isCode_65 rfl (by first | rfl | decide) (Nat.le_of_ble_eq_true rfl) (Nat.le_of_ble_eq_true rfl) ⟨rfl, rfl, rfl⟩
    refine g_aload_n dX9_isCode_0 rfl ?_
    refine z_getf fl_X9_73 dX9_isCode_1 m_d rfl ?_
    refine g_aload_n dX9_isCode_4 rfl ?_
    refine z_getf fl_X9_7 dX9_isCode_5 m_d rfl ?_
    refine z_iconst dX9_isCode_8 ?_
    refine z_iaload (j := 5) dX9_isCode_9 m_v rfl (by omega) (by omega) ?_
    refine z_icmp_ne (tgt := 17) dX9_isCode_10 (by decide) (by omega) (by omega) (fun c10 => absurd c10 (by omega)) (fun c10 => ?_)
    refine z_iconst dX9_isCode_13 ?_
    refine g_goto (tgt := 18) dX9_isCode_14 (by decide) ?_
    refine g_istore_n dX9_isCode_18 rfl (Nat.le_of_ble_eq_true rfl) ?_
    refine z_iconst dX9_isCode_19 ?_
    refine g_istore_n dX9_isCode_20 rfl (Nat.le_of_ble_eq_true rfl) ?_
    exact loop out.length 0 (by omega) (fun i hi => absurd hi (Nat.not_lt_zero _))
  · have hne : out ≠ cs := fun q => hl (by rw [q])
    rw [if_neg hne]
    refine g_aload_n dX9_isCode_0 rfl ?_
    refine z_getf fl_X9_73 dX9_isCode_1 m_d rfl ?_
    refine g_aload_n dX9_isCode_4 rfl ?_
    refine z_getf fl_X9_7 dX9_isCode_5 m_d rfl ?_
    refine z_iconst dX9_isCode_8 ?_
    refine z_iaload (j := 5) dX9_isCode_9 m_v rfl (by omega) (by omega) ?_
    refine z_icmp_ne (tgt := 17) dX9_isCode_10 (by decide) (by omega) (by omega) (fun c10 => ?_) (fun c10 => absurd c10 (by omega))
    refine z_iconst dX9_isCode_17 ?_
    refine g_istore_n dX9_isCode_18 rfl (Nat.le_of_ble_eq_true rfl) ?_
    refine z_iconst dX9_isCode_19 ?_
    refine g_istore_n dX9_isCode_20 rfl (Nat.le_of_ble_eq_true rfl) ?_
    refine g_iload_n dX9_isCode_21 rfl ?_
    refine g_aload_n dX9_isCode_22 rfl ?_
    refine z_getf fl_X9_73 dX9_isCode_23 m_d rfl ?_
    refine z_icmp_ge (tgt := 64) dX9_isCode_26 (by decide) (by omega) (by omega) (fun c26 => ?_) (fun c26 => ?_)
    · refine g_iload_n dX9_isCode_64 rfl ?_
      exact g_zreturn dX9_isCode_65 rfl (by first | rfl | decide) (Nat.le_of_ble_eq_true rfl) (Nat.le_of_ble_eq_true rfl) ⟨rfl, rfl, rfl⟩
    · refine g_iload_n dX9_isCode_29 rfl ?_
      refine z_if_eq (tgt := 64) dX9_isCode_30 (by decide) (by omega) (fun c30 => ?_) (fun c30 => absurd c30 (by omega))
      refine g_iload_n dX9_isCode_64 rfl ?_
      exact g_zreturn dX9_isCode_65 rfl (by first | rfl | decide) (Nat.le_of_ble_eq_true rfl) (Nat.le_of_ble_eq_true rfl) ⟨rfl, rfl, rfl⟩
