/-! the reference: a text is coded -/
/-- the account as the reference keeps it -/
def tdd (gt : Nat → Int) (A : List ac) : Prop := ∀ (k : Nat) (h : k < A.length), gt (4 * k) = A[k].1 ∧ gt (4 * k + 1) = A[k].2.1 ∧ gt (4 * k + 2) = A[k].2.2.1 ∧ gt (4 * k + 3) = A[k].2.2.2
theorem tdd.snoc {gt gt2 : Nat → Int} {A : List ac} {x : ac} (h : tdd gt A) (e : ∀ y, y < 4 * A.length → gt2 y = gt y) (e0 : gt2 (4 * A.length) = x.1) (e1 : gt2 (4 * A.length + 1) = x.2.1) (e2 : gt2 (4 * A.length + 2) = x.2.2.1) (e3 : gt2 (4 * A.length + 3) = x.2.2.2) : tdd gt2 (A ++ [x]) := by
  intro k hk
  rw [List.length_append, List.length_singleton] at hk
  by_cases q : k < A.length
  · rw [List.getElem_append_left q]
    obtain ⟨u0, u1, u2, u3⟩ := h k q
    exact ⟨(e _ (by omega)).trans u0, (e _ (by omega)).trans u1, (e _ (by omega)).trans u2, (e _ (by omega)).trans u3⟩
  · have q2 : k = A.length := by omega
    subst q2
    rw [List.getElem_append_right (Nat.le_refl _)]
    simp only [Nat.sub_self, List.getElem_singleton]
    exact ⟨e0, e1, e2, e3⟩
set_option maxHeartbeats 1000000 in
theorem r_codesAll {M0 : pM} {z d : Nat} {pm ty co ec cd wr tc mo tk fm : Int} {e : es} (m_d : M0 d = some (ro d pm ty e.1 e.2.1 (e.2.2.1.length : Int) e.2.2.2 co ec cd wr tc mo tk fm)) {g : Nat → Int} (m_v : M0 (d + 1) = some (arI 25700 g)) {t : tbl} (hv : VM g t) (ht : okT t) (hS : okS (g 0) (g 1) (g 2) (g 3)) {q N : Nat} {xs : List Int} (h : Tx M0 q N xs) (hq : q ≠ d ∧ q ≠ d + 1 ∧ q ≠ d + 5 ∧ q ≠ d + 6 ∧ q ≠ d + 7) (hx : okX xs) (hl : xs.length ≤ 200) {ex : Nat → Bool} (hg : Go M0 d ex) (hm : Ma M0 d e.2.2.1) {gt : Nat → Int} (m_to : M0 (d + 7) = some (arI 804 gt)) : CW I_X9_codesAll yX9_codesAll [.ref d, .ref q, vI (xs.length : Int)] M0 z (fun M' r => r = none ∧ (∃ co ec cd wr : Int, M' d = some (ro d pm ty (cend (g 0) (g 1) (g 2) (g 3) xs t).1 (cend (g 0) (g 1) (g 2) (g 3) xs t).2.1 ((cend (g 0) (g 1) (g 2) (g 3) xs t).2.2.1.length : Int) (cend (g 0) (g 1) (g 2) (g 3) xs t).2.2.2 co ec cd wr ((crun (g 0) (g 1) (g 2) (g 3) xs t (xs.length + 1)).2.1.map (fun x => x.1)).sum mo tk fm)) ∧ (∃ g', M' (d + 1) = some (arI 25700 g') ∧ VM g' (crun (g 0) (g 1) (g 2) (g 3) xs t (xs.length + 1)).1 ∧ VO g g') ∧ Ma M' d (cend (g 0) (g 1) (g 2) (g 3) xs t).2.2.1 ∧ (∃ ex, Go M' d ex) ∧ (∃ gt' : Nat → Int, M' (d + 7) = some (arI 804 gt') ∧ tdd gt' (crun (g 0) (g 1) (g 2) (g 3) xs t (xs.length + 1)).2.1) ∧ (∀ x : Nat, ¬ (x = d ∨ x = d + 1 ∨ x = d + 5 ∨ x = d + 6 ∨ x = d + 7) → M' x = M0 x)) := by
  have fr : (∀ x : Nat, ¬ (x = d ∨ x = d + 1 ∨ x = d + 5 ∨ x = d + 6 ∨ x = d + 7) → M0 x = M0 x) := fun _ _ => rfl
  refine C.intro (pl := [some (.ref d), some (.ref q), some (vI (xs.length : Int)), none, none]) pn_X9 rfl (fun h => absurd h (by decide)) rfl (Nat.le_of_ble_eq_true rfl) rfl ?_
  have loop : ∀ (u k : Nat) (M : pM) (g1 gt1 : Nat → Int) (ex : Nat → Bool) (co ec cd wr : Int), k + u = xs.length + 1 → M d = some (ro d pm ty (crun (g 0) (g 1) (g 2) (g 3) xs t k).2.2.1 (crun (g 0) (g 1) (g 2) (g 3) xs t k).2.2.2.1 ((crun (g 0) (g 1) (g 2) (g 3) xs t k).2.2.2.2.1.length : Int) (crun (g 0) (g 1) (g 2) (g 3) xs t k).2.2.2.2.2 co ec cd wr ((crun (g 0) (g 1) (g 2) (g 3) xs t k).2.1.map (fun x => x.1)).sum mo tk fm) → M (d + 1) = some (arI 25700 g1) → VM g1 (crun (g 0) (g 1) (g 2) (g 3) xs t k).1 → VO g g1 → Tx M q N xs → Go M d ex → Ma M d (crun (g 0) (g 1) (g 2) (g 3) xs t k).2.2.2.2.1 → wOK 1 (crun (g 0) (g 1) (g 2) (g 3) xs t k).2.2 (20 * k) (9 * k) → M (d + 7) = some (arI 804 gt1) → tdd gt1 (crun (g 0) (g 1) (g 2) (g 3) xs t k).2.1 → (∀ x : Nat, ¬ (x = d ∨ x = d + 1 ∨ x = d + 5 ∨ x = d + 6 ∨ x = d + 7) → M x = M0 x) → ∀ K4 : Option Value, G I_X9_codesAll 0 0 (fun M' z' r' => z' = z ∧ r' = none ∧ (∃ co ec cd wr : Int, M' d = some (ro d pm ty (cend (g 0) (g 1) (g 2) (g 3) xs t).1 (cend (g 0) (g 1) (g 2) (g 3) xs t).2.1 ((cend (g 0) (g 1) (g 2) (g 3) xs t).2.2.1.length : Int) (cend (g 0) (g 1) (g 2) (g 3) xs t).2.2.2 co ec cd wr ((crun (g 0) (g 1) (g 2) (g 3) xs t (xs.length + 1)).2.1.map (fun x => x.1)).sum mo tk fm)) ∧ (∃ g', M' (d + 1) = some (arI 25700 g') ∧ VM g' (crun (g 0) (g 1) (g 2) (g 3) xs t (xs.length + 1)).1 ∧ VO g g') ∧ Ma M' d (cend (g 0) (g 1) (g 2) (g 3) xs t).2.2.1 ∧ (∃ ex, Go M' d ex) ∧ (∃ gt' : Nat → Int, M' (d + 7) = some (arI 804 gt') ∧ tdd gt' (crun (g 0) (g 1) (g 2) (g 3) xs t (xs.length + 1)).2.1) ∧ (∀ x : Nat, ¬ (x = d ∨ x = d + 1 ∨ x = d + 5 ∨ x = d + 6 ∨ x = d + 7) → M' x = M0 x)) 0 0 11 [some (.ref d), some (.ref q), some (vI (xs.length : Int)), some (vI (k : Int)), K4] [] M z := by
    intro u
    induction u with
    | zero =>
      intro k M g1 gt1 ex co ec cd wr hk m_d m_v hv ho h hg hm hw m_to hto fr K4
      have e : k = xs.length + 1 := by omega
      subst e
      have hc := chk_rng xs
      have hok := okI_chk (xs := xs)
      rcases hw with hw | ⟨-, w1, w2, w3⟩
      · exact absurd hw (by decide)
      have w4 := okN_eiv w1 hok
      have w5 := cI_eiv w1 hok w2
      have w6 := eiv_len w1 hok
      have w7 : ib (chk xs, chk xs + 1, 65536) = 4 := rfl
      unfold cend
      generalize (crun (g 0) (g 1) (g 2) (g 3) xs t (xs.length + 1)).2.2 = ce at m_d hm w1 w2 w3 w4 w5 w6 ⊢
      obtain ⟨lw, rg, ou, ln⟩ := ce
      dsimp only at m_d hm w2 w3 w6
      refine g_iload_n dX9_codesAll_11 rfl ?_
      refine g_iload_n dX9_codesAll_12 rfl ?_
      refine z_icmp_gt (tgt := 117) dX9_codesAll_13 (by decide) (by omega) (by omega) (fun c13 => ?_) (fun c13 => absurd c13 (by omega))
      refine g_aload_n dX9_codesAll_117 rfl ?_
      refine g_iload_n dX9_codesAll_118 rfl ?_
      refine z_callSR dX9_codesAll_119 lm_X9_163 lk_X9_checkOf (r_checkOf h hx) rfl rfl (mkRoom rfl rfl) (Nat.le_of_ble_eq_true rfl) (Nat.le_of_ble_eq_true rfl) (Nat.le_of_ble_eq_true rfl) ?_
      refine g_istore_n dX9_codesAll_122 rfl (Nat.le_of_ble_eq_true rfl) ?_
      refine g_aload_n dX9_codesAll_123 rfl ?_
      refine g_iload_n dX9_codesAll_124 rfl ?_
      refine z_i2l dX9_codesAll_125 (by omega) ?_
      refine g_iload_n dX9_codesAll_126 rfl ?_
      refine z_iconst dX9_codesAll_127 ?_
      refine z_iadd dX9_codesAll_128 ?_
      refine z_i2l dX9_codesAll_129 (by omega) ?_
      refine z_ldc2 (65536) dX9_codesAll_130 kc_X9_167 rfl ?_
      refine z_callVV dX9_codesAll_133 lm_X9_103 lk_X9_writes (r_writes m_d hm w1 (by omega) hok w2 (by omega)) rfl rfl m_d rfl (mkRoom rfl rfl) (Nat.le_of_ble_eq_true rfl) (Nat.le_of_ble_eq_true rfl) (Nat.le_of_ble_eq_true rfl) (fun M r hp => ?_)
      obtain ⟨rfl, m_d, hm, o1⟩ := hp
      have hg := hg.by_ (o1 _ (by omega))
      have m_v := (o1 _ (by omega)).trans m_v
      have m_to := (o1 _ (by omega)).trans m_to
      have h := h.by_ (o1 _ (by omega))
      have fr : (∀ x : Nat, ¬ (x = d ∨ x = d + 1 ∨ x = d + 5 ∨ x = d + 6 ∨ x = d + 7) → M x = M0 x) := fun x hx => (o1 x (by omega)).trans (fr x hx)
      refine g_aload_n dX9_codesAll_136 rfl ?_
      refine z_callVV dX9_codesAll_137 lm_X9_169 lk_X9_finishes (r_finishes m_d hm w4 (by omega) w5 (by omega)) rfl rfl m_d rfl (mkRoom rfl rfl) (Nat.le_of_ble_eq_true rfl) (Nat.le_of_ble_eq_true rfl) (Nat.le_of_ble_eq_true rfl) (fun M r hp => ?_)
      obtain ⟨rfl, m_d, hm, o1⟩ := hp
      have hg := hg.by_ (o1 _ (by omega))
      have m_v := (o1 _ (by omega)).trans m_v
      have m_to := (o1 _ (by omega)).trans m_to
      have fr : (∀ x : Nat, ¬ (x = d ∨ x = d + 1 ∨ x = d + 5 ∨ x = d + 6 ∨ x = d + 7) → M x = M0 x) := fun x hx => (o1 x (by omega)).trans (fr x hx)
      exact g_return dX9_codesAll_140 rfl (Nat.le_of_ble_eq_true rfl) (Nat.le_of_ble_eq_true rfl) ⟨rfl, rfl, ⟨_, _, _, _, m_d⟩, ⟨_, m_v, hv, ho⟩, hm, ⟨ex, hg⟩, ⟨_, m_to, hto⟩, fr⟩
    | succ u ih =>
      intro k M g1 gt1 ex co ec cd wr hk m_d m_v hv ho h hg hm hw m_to hto fr K4
      have p0 := ho 0 (by omega)
      have p1 := ho 1 (by omega)
      have p2 := ho 2 (by omega)
      have p3 := ho 3 (by omega)
      have hS1 : okS (g1 0) (g1 1) (g1 2) (g1 3) := by rw [p0, p1, p2, p3]; exact hS
      obtain ⟨c1, c2, -⟩ := crun_ok hS hx ht k (by omega)
      have hsy := sy_lt hx k
      have ih2 := fun M2 g2 gt2 => ih (k + 1) M2 g2 gt2
      rw [crun] at ih2
      unfold cstep at ih2
      dsimp only at ih2
      refine g_iload_n dX9_codesAll_11 rfl ?_
      refine g_iload_n dX9_codesAll_12 rfl ?_
      refine z_icmp_gt (tgt := 117) dX9_codesAll_13 (by decide) (by omega) (by omega) (fun c13 => absurd c13 (by omega)) (fun c13 => ?_)
      refine g_aload_n dX9_codesAll_16 rfl ?_
      refine g_aload_n dX9_codesAll_17 rfl ?_
      refine g_iload_n dX9_codesAll_18 rfl ?_
      refine g_iload_n dX9_codesAll_19 rfl ?_
      refine z_callVR dX9_codesAll_20 lm_X9_143 lk_X9_symbolAt (r_symbolAt (k := k) h hx (by omega)) rfl rfl m_d rfl (mkRoom rfl rfl) (Nat.le_of_ble_eq_true rfl) (Nat.le_of_ble_eq_true rfl) (Nat.le_of_ble_eq_true rfl) ?_
      refine g_istore dX9_codesAll_23 (Nat.le_of_ble_eq_true rfl) ?_
      refine g_aload_n dX9_codesAll_25 rfl ?_
      refine z_iconst dX9_codesAll_26 ?_
      refine z_putf fl_X9_99 dX9_codesAll_27 m_d rfl (Nat.le_of_ble_eq_true rfl) rfl rfl (fun M m_d o => ?_)
      have m_to := (o _ (by omega)).trans m_to
      have fr : (∀ x : Nat, ¬ (x = d ∨ x = d + 1 ∨ x = d + 5 ∨ x = d + 6 ∨ x = d + 7) → M x = M0 x) := fun x hx => (o x (by omega)).trans (fr x hx)
      have hm := hm.by_ (o _ (by omega))
      have hg := hg.by_ (o _ (by omega))
      have m_v := (o _ (by omega)).trans m_v
      have h := h.by_ (o _ (by omega))
      refine g_aload_n dX9_codesAll_30 rfl ?_
      refine g_aload_n dX9_codesAll_31 rfl ?_
      refine g_iload_n dX9_codesAll_32 rfl ?_
      refine g_iload dX9_codesAll_33 rfl ?_
      refine z_callVV dX9_codesAll_35 lm_X9_150 lk_X9_codes (r_codes (s := sy xs k) m_d m_v hv c1 hS1 h (by omega) hx (by omega) hsy hg hm hw (by omega) (by omega)) rfl rfl m_d rfl (mkRoom rfl rfl) (Nat.le_of_ble_eq_true rfl) (Nat.le_of_ble_eq_true rfl) (Nat.le_of_ble_eq_true rfl) (fun M r hp => ?_)
      rw [p0, p1] at hp
      obtain ⟨rfl, m_d, hm, ⟨ex2, hg⟩, hw, o1⟩ := hp
      have m_v := (o1 _ (by omega)).trans m_v
      have m_to := (o1 _ (by omega)).trans m_to
      have h := h.by_ (o1 _ (by omega))
      rw [show ewf 1 (crun (g 0) (g 1) (g 2) (g 3) xs t k).2.2 (route (crun (g 0) (g 1) (g 2) (g 3) xs t k).1 xs k (g 1) (g 0) (sy xs k)).1 = ecs (crun (g 0) (g 1) (g 2) (g 3) xs t k).2.2 (route (crun (g 0) (g 1) (g 2) (g 3) xs t k).1 xs k (g 1) (g 0) (sy xs k)).1 from if_neg (by decide)] at m_d hm hw
      have fr : (∀ x : Nat, ¬ (x = d ∨ x = d + 1 ∨ x = d + 5 ∨ x = d + 6 ∨ x = d + 7) → M x = M0 x) := fun x hx => (o1 x (by omega)).trans (fr x hx)
      refine g_aload_n dX9_codesAll_38 rfl ?_
      refine z_getf fl_X9_30 dX9_codesAll_39 m_d rfl ?_
      refine z_iconst dX9_codesAll_42 ?_
      refine g_iload_n dX9_codesAll_43 rfl ?_
      refine z_imul dX9_codesAll_44 ?_
      refine g_aload_n dX9_codesAll_45 rfl ?_
      refine z_getf fl_X9_93 dX9_codesAll_46 m_d rfl ?_
      refine z_iastore (j := 4 * k) dX9_codesAll_49 m_to (by omega) (by omega) (by omega) (fun M m_to o => ?_)
      have m_d := (o _ (by omega)).trans m_d
      have fr : (∀ x : Nat, ¬ (x = d ∨ x = d + 1 ∨ x = d + 5 ∨ x = d + 6 ∨ x = d + 7) → M x = M0 x) := fun x hx => (o x (by omega)).trans (fr x hx)
      have hm := hm.by_ (o _ (by omega))
      have hg := hg.by_ (o _ (by omega))
      have m_v := (o _ (by omega)).trans m_v
      have h := h.by_ (o _ (by omega))
      refine g_aload_n dX9_codesAll_50 rfl ?_
      refine z_getf fl_X9_30 dX9_codesAll_51 m_d rfl ?_
      refine z_iconst dX9_codesAll_54 ?_
      refine g_iload_n dX9_codesAll_55 rfl ?_
      refine z_imul dX9_codesAll_56 ?_
      refine z_iconst dX9_codesAll_57 ?_
      refine z_iadd dX9_codesAll_58 ?_
      refine g_aload_n dX9_codesAll_59 rfl ?_
      refine z_getf fl_X9_107 dX9_codesAll_60 m_d rfl ?_
      refine z_iastore (j := 4 * k + 1) dX9_codesAll_63 m_to (by omega) (by omega) (by omega) (fun M m_to o => ?_)
      have m_d := (o _ (by omega)).trans m_d
      have fr : (∀ x : Nat, ¬ (x = d ∨ x = d + 1 ∨ x = d + 5 ∨ x = d + 6 ∨ x = d + 7) → M x = M0 x) := fun x hx => (o x (by omega)).trans (fr x hx)
      have hm := hm.by_ (o _ (by omega))
      have hg := hg.by_ (o _ (by omega))
      have m_v := (o _ (by omega)).trans m_v
      have h := h.by_ (o _ (by omega))
      refine g_aload_n dX9_codesAll_64 rfl ?_
      refine z_getf fl_X9_30 dX9_codesAll_65 m_d rfl ?_
      refine z_iconst dX9_codesAll_68 ?_
      refine g_iload_n dX9_codesAll_69 rfl ?_
      refine z_imul dX9_codesAll_70 ?_
      refine z_iconst dX9_codesAll_71 ?_
      refine z_iadd dX9_codesAll_72 ?_
      refine g_aload_n dX9_codesAll_73 rfl ?_
      refine z_getf fl_X9_110 dX9_codesAll_74 m_d rfl ?_
      refine z_iastore (j := 4 * k + 2) dX9_codesAll_77 m_to (by omega) (by omega) (by omega) (fun M m_to o => ?_)
      have m_d := (o _ (by omega)).trans m_d
      have fr : (∀ x : Nat, ¬ (x = d ∨ x = d + 1 ∨ x = d + 5 ∨ x = d + 6 ∨ x = d + 7) → M x = M0 x) := fun x hx => (o x (by omega)).trans (fr x hx)
      have hm := hm.by_ (o _ (by omega))
      have hg := hg.by_ (o _ (by omega))
      have m_v := (o _ (by omega)).trans m_v
      have h := h.by_ (o _ (by omega))
      refine g_aload_n dX9_codesAll_78 rfl ?_
      refine z_getf fl_X9_30 dX9_codesAll_79 m_d rfl ?_
      refine z_iconst dX9_codesAll_82 ?_
      refine g_iload_n dX9_codesAll_83 rfl ?_
      refine z_imul dX9_codesAll_84 ?_
      refine z_iconst dX9_codesAll_85 ?_
      refine z_iadd dX9_codesAll_86 ?_
      refine g_iload dX9_codesAll_87 rfl ?_
      refine z_iastore (j := 4 * k + 3) dX9_codesAll_89 m_to (by omega) (by omega) (by omega) (fun M m_to o => ?_)
      have m_d := (o _ (by omega)).trans m_d
      have fr : (∀ x : Nat, ¬ (x = d ∨ x = d + 1 ∨ x = d + 5 ∨ x = d + 6 ∨ x = d + 7) → M x = M0 x) := fun x hx => (o x (by omega)).trans (fr x hx)
      have hm := hm.by_ (o _ (by omega))
      have hg := hg.by_ (o _ (by omega))
      have m_v := (o _ (by omega)).trans m_v
      have h := h.by_ (o _ (by omega))
      refine g_aload_n dX9_codesAll_90 rfl ?_
      refine g_dup dX9_codesAll_91 rfl ?_
      refine z_getf fl_X9_160 dX9_codesAll_92 m_d rfl ?_
      refine g_aload_n dX9_codesAll_95 rfl ?_
      refine z_getf fl_X9_93 dX9_codesAll_96 m_d rfl ?_
      refine z_iadd dX9_codesAll_99 ?_
      refine z_putf fl_X9_160 dX9_codesAll_100 m_d rfl (Nat.le_of_ble_eq_true rfl) rfl rfl (fun M m_d o => ?_)
      have m_to := (o _ (by omega)).trans m_to
      have fr : (∀ x : Nat, ¬ (x = d ∨ x = d + 1 ∨ x = d + 5 ∨ x = d + 6 ∨ x = d + 7) → M x = M0 x) := fun x hx => (o x (by omega)).trans (fr x hx)
      have hm := hm.by_ (o _ (by omega))
      have hg := hg.by_ (o _ (by omega))
      have m_v := (o _ (by omega)).trans m_v
      have h := h.by_ (o _ (by omega))
      refine g_aload_n dX9_codesAll_103 rfl ?_
      refine g_aload_n dX9_codesAll_104 rfl ?_
      refine g_iload_n dX9_codesAll_105 rfl ?_
      refine g_iload dX9_codesAll_106 rfl ?_
      refine z_callVV dX9_codesAll_108 lm_X9_146 lk_X9_learns (r_learns (s := sy xs k) m_d m_v hv c1 hS1 h (by omega) hx (by omega) hsy) rfl rfl m_d rfl (mkRoom rfl rfl) (Nat.le_of_ble_eq_true rfl) (Nat.le_of_ble_eq_true rfl) (Nat.le_of_ble_eq_true rfl) (fun M r hp => ?_)
      rw [p0, p2, p3] at hp
      obtain ⟨rfl, g2, m_v, hv, ho2, o1⟩ := hp
      have m_d := (o1 _ (by omega)).trans m_d
      have m_to := (o1 _ (by omega)).trans m_to
      have h := h.by_ (o1 _ (by omega))
      have hg := hg.by_ (o1 _ (by omega))
      have hm := hm.by_ (o1 _ (by omega))
      have fr : (∀ x : Nat, ¬ (x = d ∨ x = d + 1 ∨ x = d + 5 ∨ x = d + 6 ∨ x = d + 7) → M x = M0 x) := fun x hx => (o1 x (by omega)).trans (fr x hx)
      refine z_iinc dX9_codesAll_111 rfl (Nat.le_of_ble_eq_true rfl) ?_
      refine g_goto (tgt := 11) dX9_codesAll_114 (by decide) ?_
      refine ih2 M g2 _ ex2 (cst (route (crun (g 0) (g 1) (g 2) (g 3) xs t k).1 xs k (g 1) (g 0) (sy xs k)).1) (((route (crun (g 0) (g 1) (g 2) (g 3) xs t k).1 xs k (g 1) (g 0) (sy xs k)).1.length : Int) - 1) (route (crun (g 0) (g 1) (g 2) (g 3) xs t k).1 xs k (g 1) (g 0) (sy xs k)).2 1 (by omega) ?_ m_v hv (ho.tr ho2) h hg hm (hw.mono (by omega) (by omega)) m_to (hto.snoc (fun y hy => ?_) ?_ ?_ ?_ ?_) fr _
      · rw [List.map_append, List.sum_append, List.map_singleton, List.sum_singleton]
        exact m_d
      · rw [upZ_n (by omega), upZ_n (by omega), upZ_n (by omega), upZ_n (by omega)]
      · rw [c2, upZ_n (by omega), upZ_n (by omega), upZ_n (by omega), upZ_s]
      · rw [c2, upZ_n (by omega), upZ_n (by omega), upZ_s]
      · rw [c2, upZ_n (by omega), upZ_s]
      · rw [c2, upZ_s]
  refine g_aload_n dX9_codesAll_0 rfl ?_
  refine z_callVV dX9_codesAll_1 lm_X9_157 lk_X9_starts (r_starts m_d) rfl rfl m_d rfl (mkRoom rfl rfl) (Nat.le_of_ble_eq_true rfl) (Nat.le_of_ble_eq_true rfl) (Nat.le_of_ble_eq_true rfl) (fun M r hp => ?_)
  obtain ⟨rfl, m_d, o1⟩ := hp
  have m_v := (o1 _ (by omega)).trans m_v
  have m_to := (o1 _ (by omega)).trans m_to
  have h := h.by_ (o1 _ (by omega))
  have hg := hg.by_ (o1 _ (by omega))
  have hm := hm.by_ (o1 _ (by omega))
  have fr : (∀ x : Nat, ¬ (x = d ∨ x = d + 1 ∨ x = d + 5 ∨ x = d + 6 ∨ x = d + 7) → M x = M0 x) := fun x hx => (o1 x (by omega)).trans (fr x hx)
  refine g_aload_n dX9_codesAll_4 rfl ?_
  refine z_iconst dX9_codesAll_5 ?_
  refine z_putf fl_X9_160 dX9_codesAll_6 m_d rfl (Nat.le_of_ble_eq_true rfl) rfl rfl (fun M m_d o => ?_)
  have m_to := (o _ (by omega)).trans m_to
  have fr : (∀ x : Nat, ¬ (x = d ∨ x = d + 1 ∨ x = d + 5 ∨ x = d + 6 ∨ x = d + 7) → M x = M0 x) := fun x hx => (o x (by omega)).trans (fr x hx)
  have hm := hm.by_ (o _ (by omega))
  have hg := hg.by_ (o _ (by omega))
  have m_v := (o _ (by omega)).trans m_v
  have h := h.by_ (o _ (by omega))
  refine z_iconst dX9_codesAll_9 ?_
  refine g_istore_n dX9_codesAll_10 rfl (Nat.le_of_ble_eq_true rfl) ?_
  obtain ⟨gm, m_ma, -, -⟩ := hm
  exact loop (xs.length + 1) 0 M g _ ex _ _ _ _ (by omega) m_d m_v hv VO.rf h hg ⟨gm, m_ma, Nat.zero_le _, fun i hi => absurd hi (Nat.not_lt_zero _)⟩ (Or.inr ⟨rfl, (crun_ok hS hx ht 0 (Nat.zero_le _)).2.2, (by show vl [] * 4294967296 + 0 + 4294967296 ≤ 256 ^ 0 * 4294967296; decide), Nat.le_refl _⟩) m_to (fun k hk => absurd hk (Nat.not_lt_zero _)) fr _
