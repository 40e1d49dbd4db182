/-! the reference: an interval is written, the end of a code -/
set_option maxHeartbeats 1000000 in
theorem r_writes {M0 : pM} {z d : Nat} {pm ty lo ra lg co ec cd wr tc mo tk fm : Int} {out : List Int} {a b t : Int} {n : Nat} (m_d : M0 d = some (ro d pm ty lo ra (out.length : Int) lg co ec cd wr tc mo tk fm)) (hm : Ma M0 d out) (hk : okN (lo, ra, out, lg) n) (hn : n ≤ 5000) (hx : okI (a, b, t)) (hc : cI lo ra out) (hl : out.length ≤ 1996) : CW I_X9_writes yX9_writes [.ref d, vL a, vL b, vL t] M0 z (fun M' r => r = none ∧ M' d = some (ro d pm ty (eiv (lo, ra, out, lg) (a, b, t)).1 (eiv (lo, ra, out, lg) (a, b, t)).2.1 ((eiv (lo, ra, out, lg) (a, b, t)).2.2.1.length : Int) (eiv (lo, ra, out, lg) (a, b, t)).2.2.2 co ec cd wr tc mo tk fm) ∧ Ma M' d (eiv (lo, ra, out, lg) (a, b, t)).2.2.1 ∧ (∀ x : Nat, ¬ (x = d ∨ x = d + 5) → M' x = M0 x)) := by
  have fr : (∀ x : Nat, ¬ (x = d ∨ x = d + 5) → M0 x = M0 x) := fun _ _ => rfl
  refine C.intro (pl := [some (.ref d), some (vL a), none, some (vL b), none, some (vL t), none, none, none]) pn_X9 rfl (fun h => absurd h (by decide)) rfl (Nat.le_of_ble_eq_true rfl) rfl ?_
  obtain ⟨k1, k2, k3, k4, k5, k6⟩ := id hk
  simp only at k1 k2 k3 k4 k5 k6
  have hcl := cryL_ok out.length out 0 k3
  have hcl2 : (cry out).1.length = out.length := hcl.2.1
  have hc2 : 0 ≤ (cry out).2 ∧ (cry out).2 ≤ out.length := ⟨hcl.2.2.1, by have := hcl.2.2.2; unfold cry; omega⟩
  obtain ⟨q1, q2, q3, q4, q5, q6, q7⟩ := ivr_b k2 hx
  obtain ⟨u1, u2, u3, u4⟩ := id hx
  have hc1 : cI (lo + ra / t * a) (ivr ra (a, b, t)) out := by unfold cI at hc ⊢; dsimp only at q5; omega
  have hE1 : 4294967296 ≤ lo + ra / t * a → (eiv (lo, ra, out, lg) (a, b, t)) = ((shf 4 (lo + ra / t * a - 4294967296) (ivr ra (a, b, t)) (cry out).1).1, (shf 4 (lo + ra / t * a - 4294967296) (ivr ra (a, b, t)) (cry out).1).2.1, (shf 4 (lo + ra / t * a - 4294967296) (ivr ra (a, b, t)) (cry out).1).2.2, max lg (cry out).2) := fun h => by
    unfold eiv
    dsimp only
    rw [if_pos h]
  have hE2 : ¬ 4294967296 ≤ lo + ra / t * a → (eiv (lo, ra, out, lg) (a, b, t)) = ((shf 4 (lo + ra / t * a) (ivr ra (a, b, t)) out).1, (shf 4 (lo + ra / t * a) (ivr ra (a, b, t)) out).2.1, (shf 4 (lo + ra / t * a) (ivr ra (a, b, t)) out).2.2, lg) := fun h => by
    unfold eiv
    dsimp only
    rw [if_neg h]
  dsimp only at q1 q2 q3 q4 q5 q6 q7 u1 u2 u3 u4
  generalize (eiv (lo, ra, out, lg) (a, b, t)) = E at hE1 hE2 ⊢
  have sl : ∀ (k : Nat) (low range : Int) (ys : List Int) (M : pM), 0 ≤ low ∧ low < 4294967296 → 1 ≤ range ∧ range ≤ 4294967296 → 16777216 < range * 256 ^ k → ys.length + k ≤ 2000 → shf k low range ys = (E.1, E.2.1, E.2.2.1) → Ma M d ys → M d = some (ro d pm ty low range (ys.length : Int) E.2.2.2 co ec cd wr tc mo tk fm) → (∀ x : Nat, ¬ (x = d ∨ x = d + 5) → M x = M0 x) → ∀ K : Option Value, G I_X9_writes 0 0 (fun M' z' r' => z' = z ∧ r' = none ∧ M' d = some (ro d pm ty E.1 E.2.1 (E.2.2.1.length : Int) E.2.2.2 co ec cd wr tc mo tk fm) ∧ Ma M' d E.2.2.1 ∧ (∀ x : Nat, ¬ (x = d ∨ x = d + 5) → M' x = M0 x)) 0 0 78 [some (.ref d), some (vL a), none, some (vL b), none, some (vL t), none, K, none] [] M z := by
    intro k
    induction k with
    | zero =>
      intro low range ys M h1 h2 h3 h4 hs hm m_d fr K
      obtain ⟨gm, m_ma, hm1, hm2⟩ := id hm
      rw [Int.pow_zero, Int.mul_one] at h3
      have hs' : (low, range, ys) = (E.1, E.2.1, E.2.2.1) := hs
      obtain ⟨s1, s2⟩ := Prod.mk.inj hs'
      obtain ⟨s2, s3⟩ := Prod.mk.inj s2
      rw [s3] at m_d hm
      rw [s1, s2] at m_d
      refine g_aload_n dX9_writes_78 rfl ?_
      refine z_getf fl_X9_70 dX9_writes_79 m_d rfl ?_
      refine z_ldc2 (16777216) dX9_writes_82 kc_X9_82 rfl ?_
      refine z_lcmp dX9_writes_85 (by omega) (by omega) (fun c85 => ?_) (fun c85 => ?_) (fun c85 => ?_)
      · refine z_if_gt (tgt := 148) dX9_writes_86 (by decide) (by decide) (fun _ => ?_) (fun q => absurd q (by decide))
        exact g_return dX9_writes_148 rfl (Nat.le_of_ble_eq_true rfl) (Nat.le_of_ble_eq_true rfl) ⟨rfl, rfl, m_d, hm, fr⟩
      · refine z_if_gt (tgt := 148) dX9_writes_86 (by decide) (by decide) (fun q => absurd q (by decide)) (fun _ => ?_)
        exfalso; omega
      · refine z_if_gt (tgt := 148) dX9_writes_86 (by decide) (by decide) (fun q => absurd q (by decide)) (fun _ => ?_)
        exfalso; omega
    | succ k ih =>
      intro low range ys M h1 h2 h3 h4 hs hm m_d fr K
      obtain ⟨gm, m_ma, hm1, hm2⟩ := id hm
      by_cases hr : range ≤ 16777216
      · rw [shf, if_pos hr] at hs
        refine g_aload_n dX9_writes_78 rfl ?_
        refine z_getf fl_X9_70 dX9_writes_79 m_d rfl ?_
        refine z_ldc2 (16777216) dX9_writes_82 kc_X9_82 rfl ?_
        refine z_lcmp dX9_writes_85 (by omega) (by omega) (fun c85 => ?_) (fun c85 => ?_) (fun c85 => ?_)
        · refine z_if_gt (tgt := 148) dX9_writes_86 (by decide) (by decide) (fun _ => ?_) (fun q => absurd q (by decide))
          exfalso; omega
        · refine z_if_gt (tgt := 148) dX9_writes_86 (by decide) (by decide) (fun q => absurd q (by decide)) (fun _ => ?_)
          refine g_aload_n dX9_writes_89 rfl ?_
          refine z_getf fl_X9_23 dX9_writes_90 m_d rfl ?_
          refine g_aload_n dX9_writes_93 rfl ?_
          refine z_getf fl_X9_73 dX9_writes_94 m_d rfl ?_
          refine g_aload_n dX9_writes_97 rfl ?_
          refine z_getf fl_X9_64 dX9_writes_98 m_d rfl ?_
          refine z_ldc2 (16777216) dX9_writes_101 kc_X9_82 rfl ?_
          refine z_ldiv dX9_writes_104 (by omega) (by omega) ?_
          refine z_l2i dX9_writes_105 (by omega) ?_
          refine z_iastore (j := ys.length) dX9_writes_106 m_ma (by omega) (by omega) (by omega) (fun M m_ma o => ?_)
          have m_d := (o _ (by omega)).trans m_d
          have fr : (∀ x : Nat, ¬ (x = d ∨ x = d + 5) → M x = M0 x) := fun x hx => (o x (by omega)).trans (fr x hx)
          refine g_aload_n dX9_writes_107 rfl ?_
          refine g_dup dX9_writes_108 rfl ?_
          refine z_getf fl_X9_73 dX9_writes_109 m_d rfl ?_
          refine z_iconst dX9_writes_112 ?_
          refine z_iadd dX9_writes_113 ?_
          refine z_putf fl_X9_73 dX9_writes_114 m_d rfl (Nat.le_of_ble_eq_true rfl) rfl rfl (fun M m_d o => ?_)
          have m_ma := (o _ (by omega)).trans m_ma
          have fr : (∀ x : Nat, ¬ (x = d ∨ x = d + 5) → M x = M0 x) := fun x hx => (o x (by omega)).trans (fr x hx)
          refine g_aload_n dX9_writes_117 rfl ?_
          refine g_aload_n dX9_writes_118 rfl ?_
          refine z_getf fl_X9_64 dX9_writes_119 m_d rfl ?_
          refine z_ldc2 (16777216) dX9_writes_122 kc_X9_82 rfl ?_
          refine z_lrem dX9_writes_125 (by omega) (by omega) ?_
          refine z_ldc2 (256) dX9_writes_126 kc_X9_84 rfl ?_
          refine z_lmul dX9_writes_129 ?_
          refine z_putf fl_X9_64 dX9_writes_130 m_d rfl (Nat.le_of_ble_eq_true rfl) rfl rfl (fun M m_d o => ?_)
          have m_ma := (o _ (by omega)).trans m_ma
          have fr : (∀ x : Nat, ¬ (x = d ∨ x = d + 5) → M x = M0 x) := fun x hx => (o x (by omega)).trans (fr x hx)
          refine g_aload_n dX9_writes_133 rfl ?_
          refine g_dup dX9_writes_134 rfl ?_
          refine z_getf fl_X9_70 dX9_writes_135 m_d rfl ?_
          refine z_ldc2 (256) dX9_writes_138 kc_X9_84 rfl ?_
          refine z_lmul dX9_writes_141 ?_
          refine z_putf fl_X9_70 dX9_writes_142 m_d rfl (Nat.le_of_ble_eq_true rfl) rfl rfl (fun M m_d o => ?_)
          have m_ma := (o _ (by omega)).trans m_ma
          have fr : (∀ x : Nat, ¬ (x = d ∨ x = d + 5) → M x = M0 x) := fun x hx => (o x (by omega)).trans (fr x hx)
          refine g_goto (tgt := 78) dX9_writes_145 (by decide) ?_
          refine ih (low % 16777216 * 256) (range * 256) (ys ++ [low / 16777216]) M (by omega) (by omega) (by rw [Int.mul_assoc, ← Int.pow_succ']; exact h3) (by rw [List.length_append, List.length_singleton]; omega) hs ⟨_, m_ma, by rw [List.length_append, List.length_singleton]; omega, fun i hi => ?_⟩ (by rw [List.length_append, List.length_singleton]; exact m_d) fr K
          rw [List.length_append, List.length_singleton] at hi
          by_cases e : i = ys.length
          · rw [e, upZ_s, List.getD_eq_getElem?_getD, List.getElem?_append_right (Nat.le_refl _), Nat.sub_self]; rfl
          · rw [upZ_n e, hm2 i (by omega), List.getD_eq_getElem?_getD, List.getD_eq_getElem?_getD, List.getElem?_append_left (by omega)]
        · refine z_if_gt (tgt := 148) dX9_writes_86 (by decide) (by decide) (fun q => absurd q (by decide)) (fun _ => ?_)
          refine g_aload_n dX9_writes_89 rfl ?_
          refine z_getf fl_X9_23 dX9_writes_90 m_d rfl ?_
          refine g_aload_n dX9_writes_93 rfl ?_
          refine z_getf fl_X9_73 dX9_writes_94 m_d rfl ?_
          refine g_aload_n dX9_writes_97 rfl ?_
          refine z_getf fl_X9_64 dX9_writes_98 m_d rfl ?_
          refine z_ldc2 (16777216) dX9_writes_101 kc_X9_82 rfl ?_
          refine z_ldiv dX9_writes_104 (by omega) (by omega) ?_
          refine z_l2i dX9_writes_105 (by omega) ?_
          refine z_iastore (j := ys.length) dX9_writes_106 m_ma (by omega) (by omega) (by omega) (fun M m_ma o => ?_)
          have m_d := (o _ (by omega)).trans m_d
          have fr : (∀ x : Nat, ¬ (x = d ∨ x = d + 5) → M x = M0 x) := fun x hx => (o x (by omega)).trans (fr x hx)
          refine g_aload_n dX9_writes_107 rfl ?_
          refine g_dup dX9_writes_108 rfl ?_
          refine z_getf fl_X9_73 dX9_writes_109 m_d rfl ?_
          refine z_iconst dX9_writes_112 ?_
          refine z_iadd dX9_writes_113 ?_
          refine z_putf fl_X9_73 dX9_writes_114 m_d rfl (Nat.le_of_ble_eq_true rfl) rfl rfl (fun M m_d o => ?_)
          have m_ma := (o _ (by omega)).trans m_ma
          have fr : (∀ x : Nat, ¬ (x = d ∨ x = d + 5) → M x = M0 x) := fun x hx => (o x (by omega)).trans (fr x hx)
          refine g_aload_n dX9_writes_117 rfl ?_
          refine g_aload_n dX9_writes_118 rfl ?_
          refine z_getf fl_X9_64 dX9_writes_119 m_d rfl ?_
          refine z_ldc2 (16777216) dX9_writes_122 kc_X9_82 rfl ?_
          refine z_lrem dX9_writes_125 (by omega) (by omega) ?_
          refine z_ldc2 (256) dX9_writes_126 kc_X9_84 rfl ?_
          refine z_lmul dX9_writes_129 ?_
          refine z_putf fl_X9_64 dX9_writes_130 m_d rfl (Nat.le_of_ble_eq_true rfl) rfl rfl (fun M m_d o => ?_)
          have m_ma := (o _ (by omega)).trans m_ma
          have fr : (∀ x : Nat, ¬ (x = d ∨ x = d + 5) → M x = M0 x) := fun x hx => (o x (by omega)).trans (fr x hx)
          refine g_aload_n dX9_writes_133 rfl ?_
          refine g_dup dX9_writes_134 rfl ?_
          refine z_getf fl_X9_70 dX9_writes_135 m_d rfl ?_
          refine z_ldc2 (256) dX9_writes_138 kc_X9_84 rfl ?_
          refine z_lmul dX9_writes_141 ?_
          refine z_putf fl_X9_70 dX9_writes_142 m_d rfl (Nat.le_of_ble_eq_true rfl) rfl rfl (fun M m_d o => ?_)
          have m_ma := (o _ (by omega)).trans m_ma
          have fr : (∀ x : Nat, ¬ (x = d ∨ x = d + 5) → M x = M0 x) := fun x hx => (o x (by omega)).trans (fr x hx)
          refine g_goto (tgt := 78) dX9_writes_145 (by decide) ?_
          refine ih (low % 16777216 * 256) (range * 256) (ys ++ [low / 16777216]) M (by omega) (by omega) (by rw [Int.mul_assoc, ← Int.pow_succ']; exact h3) (by rw [List.length_append, List.length_singleton]; omega) hs ⟨_, m_ma, by rw [List.length_append, List.length_singleton]; omega, fun i hi => ?_⟩ (by rw [List.length_append, List.length_singleton]; exact m_d) fr K
          rw [List.length_append, List.length_singleton] at hi
          by_cases e : i = ys.length
          · rw [e, upZ_s, List.getD_eq_getElem?_getD, List.getElem?_append_right (Nat.le_refl _), Nat.sub_self]; rfl
          · rw [upZ_n e, hm2 i (by omega), List.getD_eq_getElem?_getD, List.getD_eq_getElem?_getD, List.getElem?_append_left (by omega)]
      · rw [shf, if_neg hr] at hs
        obtain ⟨s1, s2⟩ := Prod.mk.inj hs
        obtain ⟨s2, s3⟩ := Prod.mk.inj s2
        rw [s3] at m_d hm
        rw [s1, s2] at m_d
        rw [s2] at hr
        refine g_aload_n dX9_writes_78 rfl ?_
        refine z_getf fl_X9_70 dX9_writes_79 m_d rfl ?_
        refine z_ldc2 (16777216) dX9_writes_82 kc_X9_82 rfl ?_
        refine z_lcmp dX9_writes_85 (by omega) (by omega) (fun c85 => ?_) (fun c85 => ?_) (fun c85 => ?_)
        · refine z_if_gt (tgt := 148) dX9_writes_86 (by decide) (by decide) (fun _ => ?_) (fun q => absurd q (by decide))
          exact g_return dX9_writes_148 rfl (Nat.le_of_ble_eq_true rfl) (Nat.le_of_ble_eq_true rfl) ⟨rfl, rfl, m_d, hm, fr⟩
        · refine z_if_gt (tgt := 148) dX9_writes_86 (by decide) (by decide) (fun q => absurd q (by decide)) (fun _ => ?_)
          exfalso; omega
        · refine z_if_gt (tgt := 148) dX9_writes_86 (by decide) (by decide) (fun q => absurd q (by decide)) (fun _ => ?_)
          exfalso; omega
  refine g_aload_n dX9_writes_0 rfl ?_
  refine z_getf fl_X9_70 dX9_writes_1 m_d rfl ?_
  refine g_lload dX9_writes_4 rfl ?_
  refine z_ldiv dX9_writes_6 (by omega) (by omega) ?_
  refine g_lstore dX9_writes_7 (Nat.le_of_ble_eq_true rfl) ?_
  refine g_aload_n dX9_writes_9 rfl ?_
  refine g_dup dX9_writes_10 rfl ?_
  refine z_getf fl_X9_64 dX9_writes_11 m_d rfl ?_
  refine g_lload dX9_writes_14 rfl ?_
  refine g_lload_n dX9_writes_16 rfl ?_
  refine z_lmul dX9_writes_17 ?_
  refine z_ladd dX9_writes_18 ?_
  refine z_putf fl_X9_64 dX9_writes_19 m_d rfl (Nat.le_of_ble_eq_true rfl) rfl rfl (fun M m_d o => ?_)
  have fr : (∀ x : Nat, ¬ (x = d ∨ x = d + 5) → M x = M0 x) := fun x hx => (o x (by omega)).trans (fr x hx)
  have hm := hm.by_ (o _ (by omega))
  refine g_aload_n dX9_writes_22 rfl ?_
  refine g_lload_n dX9_writes_23 rfl ?_
  refine g_lload dX9_writes_24 rfl ?_
  refine z_lcmp dX9_writes_26 (by omega) (by omega) (fun c26 => ?_) (fun c26 => ?_) (fun c26 => ?_)
  · refine z_if_ge (tgt := 39) dX9_writes_27 (by decide) (by decide) (fun _ => ?_) (fun q => absurd q (by decide))
    refine g_aload_n dX9_writes_39 rfl ?_
    refine z_getf fl_X9_70 dX9_writes_40 m_d rfl ?_
    refine g_lload dX9_writes_43 rfl ?_
    refine g_lload_n dX9_writes_45 rfl ?_
    refine z_lmul dX9_writes_46 ?_
    refine z_lsub dX9_writes_47 ?_
    refine z_putf fl_X9_70 dX9_writes_48 m_d rfl (Nat.le_of_ble_eq_true rfl) rfl rfl (fun M m_d o => ?_)
    have fr : (∀ x : Nat, ¬ (x = d ∨ x = d + 5) → M x = M0 x) := fun x hx => (o x (by omega)).trans (fr x hx)
    have hm := hm.by_ (o _ (by omega))
    refine g_aload_n dX9_writes_51 rfl ?_
    refine z_getf fl_X9_64 dX9_writes_52 m_d rfl ?_
    refine z_ldc2 (4294967296) dX9_writes_55 kc_X9_68 rfl ?_
    refine z_lcmp dX9_writes_58 (by omega) (by omega) (fun c58 => ?_) (fun c58 => ?_) (fun c58 => ?_)
    · refine z_if_lt (tgt := 78) dX9_writes_59 (by decide) (by decide) (fun q => absurd q (by decide)) (fun _ => ?_)
      refine g_aload_n dX9_writes_62 rfl ?_
      refine g_dup dX9_writes_63 rfl ?_
      refine z_getf fl_X9_64 dX9_writes_64 m_d rfl ?_
      refine z_ldc2 (4294967296) dX9_writes_67 kc_X9_68 rfl ?_
      refine z_lsub dX9_writes_70 ?_
      refine z_putf fl_X9_64 dX9_writes_71 m_d rfl (Nat.le_of_ble_eq_true rfl) rfl rfl (fun M m_d o => ?_)
      have fr : (∀ x : Nat, ¬ (x = d ∨ x = d + 5) → M x = M0 x) := fun x hx => (o x (by omega)).trans (fr x hx)
      have hm := hm.by_ (o _ (by omega))
      refine g_aload_n dX9_writes_74 rfl ?_
      refine z_callVV dX9_writes_75 lm_X9_79 lk_X9_carries (r_carries m_d hm k3 (cI_255 hc1 (by omega) (by omega)) (by omega)) rfl rfl m_d rfl (mkRoom rfl rfl) (Nat.le_of_ble_eq_true rfl) (Nat.le_of_ble_eq_true rfl) (Nat.le_of_ble_eq_true rfl) (fun M r hp => ?_)
      obtain ⟨rfl, m_d, hm2, o1⟩ := hp
      have fr : (∀ x : Nat, ¬ (x = d ∨ x = d + 5) → M x = M0 x) := fun x hx => (o1 x (by omega)).trans (fr x hx)
      have e1 := hE1 (by omega)
      rw [(q7 (by omega))] at e1 q4 q5
      have e4 : max lg (cry out).2 = E.2.2.2 := by rw [e1]
      rw [e4] at m_d
      exact sl 4 (((lo + ((ra / t) * a)) - (4294967296))) ((ra - ((ra / t) * a))) (cry out).1 M (by omega) (by omega) (by omega) (by omega) (by rw [e1]) hm2 (by rw [hcl2]; exact m_d) fr _
    · refine z_if_lt (tgt := 78) dX9_writes_59 (by decide) (by decide) (fun q => absurd q (by decide)) (fun _ => ?_)
      refine g_aload_n dX9_writes_62 rfl ?_
      refine g_dup dX9_writes_63 rfl ?_
      refine z_getf fl_X9_64 dX9_writes_64 m_d rfl ?_
      refine z_ldc2 (4294967296) dX9_writes_67 kc_X9_68 rfl ?_
      refine z_lsub dX9_writes_70 ?_
      refine z_putf fl_X9_64 dX9_writes_71 m_d rfl (Nat.le_of_ble_eq_true rfl) rfl rfl (fun M m_d o => ?_)
      have fr : (∀ x : Nat, ¬ (x = d ∨ x = d + 5) → M x = M0 x) := fun x hx => (o x (by omega)).trans (fr x hx)
      have hm := hm.by_ (o _ (by omega))
      refine g_aload_n dX9_writes_74 rfl ?_
      refine z_callVV dX9_writes_75 lm_X9_79 lk_X9_carries (r_carries m_d hm k3 (cI_255 hc1 (by omega) (by omega)) (by omega)) rfl rfl m_d rfl (mkRoom rfl rfl) (Nat.le_of_ble_eq_true rfl) (Nat.le_of_ble_eq_true rfl) (Nat.le_of_ble_eq_true rfl) (fun M r hp => ?_)
      obtain ⟨rfl, m_d, hm2, o1⟩ := hp
      have fr : (∀ x : Nat, ¬ (x = d ∨ x = d + 5) → M x = M0 x) := fun x hx => (o1 x (by omega)).trans (fr x hx)
      have e1 := hE1 (by omega)
      rw [(q7 (by omega))] at e1 q4 q5
      have e4 : max lg (cry out).2 = E.2.2.2 := by rw [e1]
      rw [e4] at m_d
      exact sl 4 (((lo + ((ra / t) * a)) - (4294967296))) ((ra - ((ra / t) * a))) (cry out).1 M (by omega) (by omega) (by omega) (by omega) (by rw [e1]) hm2 (by rw [hcl2]; exact m_d) fr _
    · refine z_if_lt (tgt := 78) dX9_writes_59 (by decide) (by decide) (fun _ => ?_) (fun q => absurd q (by decide))
      have e1 := hE2 (by omega)
      rw [(q7 (by omega))] at e1 q4 q5
      have e4 : lg = E.2.2.2 := by rw [e1]
      rw [e4] at m_d
      exact sl 4 ((lo + ((ra / t) * a))) ((ra - ((ra / t) * a))) out M (by omega) (by omega) (by omega) (by omega) (by rw [e1]) hm m_d fr _
  · refine z_if_ge (tgt := 39) dX9_writes_27 (by decide) (by decide) (fun _ => ?_) (fun q => absurd q (by decide))
    refine g_aload_n dX9_writes_39 rfl ?_
    refine z_getf fl_X9_70 dX9_writes_40 m_d rfl ?_
    refine g_lload dX9_writes_43 rfl ?_
    refine g_lload_n dX9_writes_45 rfl ?_
    refine z_lmul dX9_writes_46 ?_
    refine z_lsub dX9_writes_47 ?_
    refine z_putf fl_X9_70 dX9_writes_48 m_d rfl (Nat.le_of_ble_eq_true rfl) rfl rfl (fun M m_d o => ?_)
    have fr : (∀ x : Nat, ¬ (x = d ∨ x = d + 5) → M x = M0 x) := fun x hx => (o x (by omega)).trans (fr x hx)
    have hm := hm.by_ (o _ (by omega))
    refine g_aload_n dX9_writes_51 rfl ?_
    refine z_getf fl_X9_64 dX9_writes_52 m_d rfl ?_
    refine z_ldc2 (4294967296) dX9_writes_55 kc_X9_68 rfl ?_
    refine z_lcmp dX9_writes_58 (by omega) (by omega) (fun c58 => ?_) (fun c58 => ?_) (fun c58 => ?_)
    · refine z_if_lt (tgt := 78) dX9_writes_59 (by decide) (by decide) (fun q => absurd q (by decide)) (fun _ => ?_)
      refine g_aload_n dX9_writes_62 rfl ?_
      refine g_dup dX9_writes_63 rfl ?_
      refine z_getf fl_X9_64 dX9_writes_64 m_d rfl ?_
      refine z_ldc2 (4294967296) dX9_writes_67 kc_X9_68 rfl ?_
      refine z_lsub dX9_writes_70 ?_
      refine z_putf fl_X9_64 dX9_writes_71 m_d rfl (Nat.le_of_ble_eq_true rfl) rfl rfl (fun M m_d o => ?_)
      have fr : (∀ x : Nat, ¬ (x = d ∨ x = d + 5) → M x = M0 x) := fun x hx => (o x (by omega)).trans (fr x hx)
      have hm := hm.by_ (o _ (by omega))
      refine g_aload_n dX9_writes_74 rfl ?_
      refine z_callVV dX9_writes_75 lm_X9_79 lk_X9_carries (r_carries m_d hm k3 (cI_255 hc1 (by omega) (by omega)) (by omega)) rfl rfl m_d rfl (mkRoom rfl rfl) (Nat.le_of_ble_eq_true rfl) (Nat.le_of_ble_eq_true rfl) (Nat.le_of_ble_eq_true rfl) (fun M r hp => ?_)
      obtain ⟨rfl, m_d, hm2, o1⟩ := hp
      have fr : (∀ x : Nat, ¬ (x = d ∨ x = d + 5) → M x = M0 x) := fun x hx => (o1 x (by omega)).trans (fr x hx)
      have e1 := hE1 (by omega)
      rw [(q7 (by omega))] at e1 q4 q5
      have e4 : max lg (cry out).2 = E.2.2.2 := by rw [e1]
      rw [e4] at m_d
      exact sl 4 (((lo + ((ra / t) * a)) - (4294967296))) ((ra - ((ra / t) * a))) (cry out).1 M (by omega) (by omega) (by omega) (by omega) (by rw [e1]) hm2 (by rw [hcl2]; exact m_d) fr _
    · refine z_if_lt (tgt := 78) dX9_writes_59 (by decide) (by decide) (fun q => absurd q (by decide)) (fun _ => ?_)
      refine g_aload_n dX9_writes_62 rfl ?_
      refine g_dup dX9_writes_63 rfl ?_
      refine z_getf fl_X9_64 dX9_writes_64 m_d rfl ?_
      refine z_ldc2 (4294967296) dX9_writes_67 kc_X9_68 rfl ?_
      refine z_lsub dX9_writes_70 ?_
      refine z_putf fl_X9_64 dX9_writes_71 m_d rfl (Nat.le_of_ble_eq_true rfl) rfl rfl (fun M m_d o => ?_)
      have fr : (∀ x : Nat, ¬ (x = d ∨ x = d + 5) → M x = M0 x) := fun x hx => (o x (by omega)).trans (fr x hx)
      have hm := hm.by_ (o _ (by omega))
      refine g_aload_n dX9_writes_74 rfl ?_
      refine z_callVV dX9_writes_75 lm_X9_79 lk_X9_carries (r_carries m_d hm k3 (cI_255 hc1 (by omega) (by omega)) (by omega)) rfl rfl m_d rfl (mkRoom rfl rfl) (Nat.le_of_ble_eq_true rfl) (Nat.le_of_ble_eq_true rfl) (Nat.le_of_ble_eq_true rfl) (fun M r hp => ?_)
      obtain ⟨rfl, m_d, hm2, o1⟩ := hp
      have fr : (∀ x : Nat, ¬ (x = d ∨ x = d + 5) → M x = M0 x) := fun x hx => (o1 x (by omega)).trans (fr x hx)
      have e1 := hE1 (by omega)
      rw [(q7 (by omega))] at e1 q4 q5
      have e4 : max lg (cry out).2 = E.2.2.2 := by rw [e1]
      rw [e4] at m_d
      exact sl 4 (((lo + ((ra / t) * a)) - (4294967296))) ((ra - ((ra / t) * a))) (cry out).1 M (by omega) (by omega) (by omega) (by omega) (by rw [e1]) hm2 (by rw [hcl2]; exact m_d) fr _
    · refine z_if_lt (tgt := 78) dX9_writes_59 (by decide) (by decide) (fun _ => ?_) (fun q => absurd q (by decide))
      have e1 := hE2 (by omega)
      rw [(q7 (by omega))] at e1 q4 q5
      have e4 : lg = E.2.2.2 := by rw [e1]
      rw [e4] at m_d
      exact sl 4 ((lo + ((ra / t) * a))) ((ra - ((ra / t) * a))) out M (by omega) (by omega) (by omega) (by omega) (by rw [e1]) hm m_d fr _
  · refine z_if_ge (tgt := 39) dX9_writes_27 (by decide) (by decide) (fun q => absurd q (by decide)) (fun _ => ?_)
    refine g_lload dX9_writes_30 rfl ?_
    refine g_lload_n dX9_writes_32 rfl ?_
    refine g_lload_n dX9_writes_33 rfl ?_
    refine z_lsub dX9_writes_34 ?_
    refine z_lmul dX9_writes_35 ?_
    refine g_goto (tgt := 48) dX9_writes_36 (by decide) ?_
    refine z_putf fl_X9_70 dX9_writes_48 m_d rfl (Nat.le_of_ble_eq_true rfl) rfl rfl (fun M m_d o => ?_)
    have fr : (∀ x : Nat, ¬ (x = d ∨ x = d + 5) → M x = M0 x) := fun x hx => (o x (by omega)).trans (fr x hx)
    have hm := hm.by_ (o _ (by omega))
    refine g_aload_n dX9_writes_51 rfl ?_
    refine z_getf fl_X9_64 dX9_writes_52 m_d rfl ?_
    refine z_ldc2 (4294967296) dX9_writes_55 kc_X9_68 rfl ?_
    refine z_lcmp dX9_writes_58 (by omega) (by omega) (fun c58 => ?_) (fun c58 => ?_) (fun c58 => ?_)
    · refine z_if_lt (tgt := 78) dX9_writes_59 (by decide) (by decide) (fun q => absurd q (by decide)) (fun _ => ?_)
      refine g_aload_n dX9_writes_62 rfl ?_
      refine g_dup dX9_writes_63 rfl ?_
      refine z_getf fl_X9_64 dX9_writes_64 m_d rfl ?_
      refine z_ldc2 (4294967296) dX9_writes_67 kc_X9_68 rfl ?_
      refine z_lsub dX9_writes_70 ?_
      refine z_putf fl_X9_64 dX9_writes_71 m_d rfl (Nat.le_of_ble_eq_true rfl) rfl rfl (fun M m_d o => ?_)
      have fr : (∀ x : Nat, ¬ (x = d ∨ x = d + 5) → M x = M0 x) := fun x hx => (o x (by omega)).trans (fr x hx)
      have hm := hm.by_ (o _ (by omega))
      refine g_aload_n dX9_writes_74 rfl ?_
      refine z_callVV dX9_writes_75 lm_X9_79 lk_X9_carries (r_carries m_d hm k3 (cI_255 hc1 (by omega) (by omega)) (by omega)) rfl rfl m_d rfl (mkRoom rfl rfl) (Nat.le_of_ble_eq_true rfl) (Nat.le_of_ble_eq_true rfl) (Nat.le_of_ble_eq_true rfl) (fun M r hp => ?_)
      obtain ⟨rfl, m_d, hm2, o1⟩ := hp
      have fr : (∀ x : Nat, ¬ (x = d ∨ x = d + 5) → M x = M0 x) := fun x hx => (o1 x (by omega)).trans (fr x hx)
      have e1 := hE1 (by omega)
      rw [(q6 (by omega))] at e1 q4 q5
      have e4 : max lg (cry out).2 = E.2.2.2 := by rw [e1]
      rw [e4] at m_d
      exact sl 4 (((lo + ((ra / t) * a)) - (4294967296))) (((ra / t) * (b - a))) (cry out).1 M (by omega) (by omega) (by omega) (by omega) (by rw [e1]) hm2 (by rw [hcl2]; exact m_d) fr _
    · refine z_if_lt (tgt := 78) dX9_writes_59 (by decide) (by decide) (fun q => absurd q (by decide)) (fun _ => ?_)
      refine g_aload_n dX9_writes_62 rfl ?_
      refine g_dup dX9_writes_63 rfl ?_
      refine z_getf fl_X9_64 dX9_writes_64 m_d rfl ?_
      refine z_ldc2 (4294967296) dX9_writes_67 kc_X9_68 rfl ?_
      refine z_lsub dX9_writes_70 ?_
      refine z_putf fl_X9_64 dX9_writes_71 m_d rfl (Nat.le_of_ble_eq_true rfl) rfl rfl (fun M m_d o => ?_)
      have fr : (∀ x : Nat, ¬ (x = d ∨ x = d + 5) → M x = M0 x) := fun x hx => (o x (by omega)).trans (fr x hx)
      have hm := hm.by_ (o _ (by omega))
      refine g_aload_n dX9_writes_74 rfl ?_
      refine z_callVV dX9_writes_75 lm_X9_79 lk_X9_carries (r_carries m_d hm k3 (cI_255 hc1 (by omega) (by omega)) (by omega)) rfl rfl m_d rfl (mkRoom rfl rfl) (Nat.le_of_ble_eq_true rfl) (Nat.le_of_ble_eq_true rfl) (Nat.le_of_ble_eq_true rfl) (fun M r hp => ?_)
      obtain ⟨rfl, m_d, hm2, o1⟩ := hp
      have fr : (∀ x : Nat, ¬ (x = d ∨ x = d + 5) → M x = M0 x) := fun x hx => (o1 x (by omega)).trans (fr x hx)
      have e1 := hE1 (by omega)
      rw [(q6 (by omega))] at e1 q4 q5
      have e4 : max lg (cry out).2 = E.2.2.2 := by rw [e1]
      rw [e4] at m_d
      exact sl 4 (((lo + ((ra / t) * a)) - (4294967296))) (((ra / t) * (b - a))) (cry out).1 M (by omega) (by omega) (by omega) (by omega) (by rw [e1]) hm2 (by rw [hcl2]; exact m_d) fr _
    · refine z_if_lt (tgt := 78) dX9_writes_59 (by decide) (by decide) (fun _ => ?_) (fun q => absurd q (by decide))
      have e1 := hE2 (by omega)
      rw [(q6 (by omega))] at e1 q4 q5
      have e4 : lg = E.2.2.2 := by rw [e1]
      rw [e4] at m_d
      exact sl 4 ((lo + ((ra / t) * a))) (((ra / t) * (b - a))) out M (by omega) (by omega) (by omega) (by omega) (by rw [e1]) hm m_d fr _
