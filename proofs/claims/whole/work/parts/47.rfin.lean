/-! the reference: an interval, the end of a code -/
theorem getD_app {xs : List Int} {x : Int} {i : Nat} (h : i < xs.length) : (xs ++ [x]).getD i 0 = xs.getD i 0 := by rw [List.getD_eq_getElem?_getD, List.getElem?_append_left h, ← List.getD_eq_getElem?_getD]
theorem getD_last {xs : List Int} {x : Int} : (xs ++ [x]).getD xs.length 0 = x := by rw [List.getD_eq_getElem?_getD, List.getElem?_append_right (Nat.le_refl _), Nat.sub_self]; rfl
def ewr (wr : Int) (e : es) (x : iv) : es := if wr = 0 then e else eiv e x
/-- what an interval needs of the coder -/
def wOK (wr : Int) (e : es) (n l : Nat) : Prop := wr = 0 ∨ (wr = 1 ∧ okN e n ∧ cI e.1 e.2.1 e.2.2.1 ∧ e.2.2.1.length ≤ l)
theorem wOK.step {wr : Int} {e : es} {n l : Nat} {x : iv} (h : wOK wr e n l) (hx : okI x) : wOK wr (ewr wr e x) (n + 4) (l + ib x) := by
  rcases h with rfl | ⟨rfl, h1, h2, h3⟩
  · exact Or.inl rfl
  · refine Or.inr ⟨rfl, ?_⟩
    unfold ewr
    rw [if_neg (by decide)]
    have := eiv_len h1 hx
    exact ⟨okN_eiv h1 hx, cI_eiv h1 hx h2, by omega⟩
set_option maxHeartbeats 1000000 in
theorem r_interval {M0 : pM} {z d : Nat} {pm ty co ec cd wr tc mo tk fm : Int} {e : es} {a b t : Int} {n l : Nat} (m_d : M0 d = some (ro d pm ty e.1 e.2.1 (e.2.2.1.length : Int) e.2.2.2 co ec cd wr tc mo tk fm)) (hm : Ma M0 d e.2.2.1) (hx : okI (a, b, t)) (hw : wOK wr e n l) (hn : n ≤ 5000) (hl : l ≤ 1996) : CW I_X9_interval yX9_interval [.ref d, vI a, vI b, vI t] M0 z (fun M' r => r = none ∧ M' d = some (ro d pm ty (ewr wr e (a, b, t)).1 (ewr wr e (a, b, t)).2.1 ((ewr wr e (a, b, t)).2.2.1.length : Int) (ewr wr e (a, b, t)).2.2.2 (co + lgc (b - a) t) ec cd wr tc mo tk fm) ∧ Ma M' d (ewr wr e (a, b, t)).2.2.1 ∧ (∀ x : Nat, ¬ (x = d ∨ x = d + 5) → M' x = M0 x)) := by
  have fr : (∀ x : Nat, ¬ (x = d ∨ x = d + 5) → M0 x = M0 x) := fun _ _ => rfl
  refine C.intro (pl := [some (.ref d), some (vI a), some (vI b), some (vI t)]) pn_X9 rfl (fun h => absurd h (by decide)) rfl (Nat.le_of_ble_eq_true rfl) rfl ?_
  obtain ⟨u1, u2, u3, u4⟩ := id hx
  dsimp only at u1 u2 u3 u4
  rcases hw with rfl | ⟨rfl, h1, h2, h3⟩
  · have he : ewr 0 e (a, b, t) = e := by unfold ewr; rw [if_pos rfl]
    rw [he]
    refine g_aload_n dX9_interval_0 rfl ?_
    refine g_dup dX9_interval_1 rfl ?_
    refine z_getf fl_X9_93 dX9_interval_2 m_d rfl ?_
    refine g_iload_n dX9_interval_5 rfl ?_
    refine z_callSR dX9_interval_6 lm_X9_96 lk_X9_log (r_log (by omega)) rfl rfl (mkRoom rfl rfl) (Nat.le_of_ble_eq_true rfl) (Nat.le_of_ble_eq_true rfl) (Nat.le_of_ble_eq_true rfl) ?_
    refine g_iload_n dX9_interval_9 rfl ?_
    refine g_iload_n dX9_interval_10 rfl ?_
    refine z_isub dX9_interval_11 ?_
    refine z_callSR dX9_interval_12 lm_X9_96 lk_X9_log (r_log (by omega)) rfl rfl (mkRoom rfl rfl) (Nat.le_of_ble_eq_true rfl) (Nat.le_of_ble_eq_true rfl) (Nat.le_of_ble_eq_true rfl) ?_
    refine z_isub dX9_interval_15 ?_
    refine z_iadd dX9_interval_16 ?_
    refine z_putf fl_X9_93 dX9_interval_17 m_d rfl (Nat.le_of_ble_eq_true rfl) rfl rfl (fun M m_d o => ?_)
    have fr : (∀ x : Nat, ¬ (x = d ∨ x = d + 5) → M x = M0 x) := fun x hx => (o x (by omega)).trans (fr x hx)
    have hm := hm.by_ (o _ (by omega))
    refine g_aload_n dX9_interval_20 rfl ?_
    refine z_getf fl_X9_99 dX9_interval_21 m_d rfl ?_
    refine z_if_eq (tgt := 37) dX9_interval_24 (by decide) (by omega) (fun c24 => ?_) (fun c24 => absurd c24 (by omega))
    exact g_return dX9_interval_37 rfl (Nat.le_of_ble_eq_true rfl) (Nat.le_of_ble_eq_true rfl) ⟨rfl, rfl, m_d, hm, fr⟩
  · have he : ewr 1 e (a, b, t) = eiv e (a, b, t) := by unfold ewr; rw [if_neg (by decide)]
    rw [he]
    obtain ⟨low, range, out, lng⟩ := e
    refine g_aload_n dX9_interval_0 rfl ?_
    refine g_dup dX9_interval_1 rfl ?_
    refine z_getf fl_X9_93 dX9_interval_2 m_d rfl ?_
    refine g_iload_n dX9_interval_5 rfl ?_
    refine z_callSR dX9_interval_6 lm_X9_96 lk_X9_log (r_log (by omega)) rfl rfl (mkRoom rfl rfl) (Nat.le_of_ble_eq_true rfl) (Nat.le_of_ble_eq_true rfl) (Nat.le_of_ble_eq_true rfl) ?_
    refine g_iload_n dX9_interval_9 rfl ?_
    refine g_iload_n dX9_interval_10 rfl ?_
    refine z_isub dX9_interval_11 ?_
    refine z_callSR dX9_interval_12 lm_X9_96 lk_X9_log (r_log (by omega)) rfl rfl (mkRoom rfl rfl) (Nat.le_of_ble_eq_true rfl) (Nat.le_of_ble_eq_true rfl) (Nat.le_of_ble_eq_true rfl) ?_
    refine z_isub dX9_interval_15 ?_
    refine z_iadd dX9_interval_16 ?_
    refine z_putf fl_X9_93 dX9_interval_17 m_d rfl (Nat.le_of_ble_eq_true rfl) rfl rfl (fun M m_d o => ?_)
    have fr : (∀ x : Nat, ¬ (x = d ∨ x = d + 5) → M x = M0 x) := fun x hx => (o x (by omega)).trans (fr x hx)
    have hm := hm.by_ (o _ (by omega))
    refine g_aload_n dX9_interval_20 rfl ?_
    refine z_getf fl_X9_99 dX9_interval_21 m_d rfl ?_
    refine z_if_eq (tgt := 37) dX9_interval_24 (by decide) (by omega) (fun c24 => absurd c24 (by omega)) (fun c24 => ?_)
    refine g_aload_n dX9_interval_27 rfl ?_
    refine g_iload_n dX9_interval_28 rfl ?_
    refine z_i2l dX9_interval_29 (by omega) ?_
    refine g_iload_n dX9_interval_30 rfl ?_
    refine z_i2l dX9_interval_31 (by omega) ?_
    refine g_iload_n dX9_interval_32 rfl ?_
    refine z_i2l dX9_interval_33 (by omega) ?_
    refine z_callVV dX9_interval_34 lm_X9_103 lk_X9_writes (r_writes m_d hm h1 hn hx h2 (by dsimp only at h3 ⊢; omega)) rfl rfl m_d rfl (mkRoom rfl rfl) (Nat.le_of_ble_eq_true rfl) (Nat.le_of_ble_eq_true rfl) (Nat.le_of_ble_eq_true rfl) (fun M r hp => ?_)
    obtain ⟨rfl, m_d, hm, o1⟩ := hp
    have fr : (∀ x : Nat, ¬ (x = d ∨ x = d + 5) → M x = M0 x) := fun x hx => (o1 x (by omega)).trans (fr x hx)
    exact g_return dX9_interval_37 rfl (Nat.le_of_ble_eq_true rfl) (Nat.le_of_ble_eq_true rfl) ⟨rfl, rfl, m_d, hm, fr⟩
set_option maxHeartbeats 1000000 in
theorem r_finishes {M0 : pM} {z d : Nat} {pm ty lo ra lg co ec cd wr tc mo tk fm : Int} {out : List Int} {n : Nat} (m_d : M0 d = some (ro d pm ty lo ra (out.length : Int) lg co ec cd wr tc mo tk fm)) (hm : Ma M0 d out) (hk : okN (lo, ra, out, lg) n) (hn : n ≤ 5000) (hc : cI lo ra out) (hl : out.length ≤ 1996) : CW I_X9_finishes yX9_finishes [.ref d] M0 z (fun M' r => r = none ∧ M' d = some (ro d pm ty lo ra (((efin (lo, ra, out, lg)).2.2.1).length : Int) (efin (lo, ra, out, lg)).2.2.2 co ec cd wr tc mo tk fm) ∧ Ma M' d (efin (lo, ra, out, lg)).2.2.1 ∧ (∀ x : Nat, ¬ (x = d ∨ x = d + 5) → M' x = M0 x)) := by
  have fr : (∀ x : Nat, ¬ (x = d ∨ x = d + 5) → M0 x = M0 x) := fun _ _ => rfl
  refine C.intro (pl := [some (.ref d), none, none, none, none, none, none]) pn_X9 rfl (fun h => absurd h (by decide)) rfl (Nat.le_of_ble_eq_true rfl) rfl ?_
  obtain ⟨k1, k2, k3, k4, k5, k6⟩ := id hk
  simp only at k1 k2 k3 k4 k5 k6
  have hcr := cryL_ok out.length out 0 k3
  have hcl2 : (cry out).1.length = out.length := hcr.2.1
  have strp : ∀ (j : Nat) (ys : List Int) (lg2 : Int) (M : pM), ys.length = j → okB ys → Ma M d ys → M d = some (ro d pm ty lo ra (ys.length : Int) lg2 co ec cd wr tc mo tk fm) → (∀ x : Nat, ¬ (x = d ∨ x = d + 5) → M x = M0 x) → ∀ K1 K2 K3 K4 K5 K6 : Option Value, G I_X9_finishes 0 0 (fun M' z' r' => z' = z ∧ r' = none ∧ M' d = some (ro d pm ty lo ra (((strip ys)).length : Int) lg2 co ec cd wr tc mo tk fm) ∧ Ma M' d (strip ys) ∧ (∀ x : Nat, ¬ (x = d ∨ x = d + 5) → M' x = M0 x)) 0 0 129 [some (.ref d), K1, K2, K3, K4, K5, K6] [] M z := by
    intro j
    induction j with
    | zero =>
      intro ys lg2 M hl hb hm m_d fr K1 K2 K3 K4 K5 K6
      have e : ys = [] := List.eq_nil_of_length_eq_zero hl
      subst e
      have hl0 : (([] : List Int).length : Int) = 0 := rfl
      refine g_aload_n dX9_finishes_129 rfl ?_
      refine z_getf fl_X9_73 dX9_finishes_130 m_d rfl ?_
      refine z_if_le (tgt := 163) dX9_finishes_133 (by decide) (by omega) (fun c133 => ?_) (fun c133 => absurd c133 (by omega))
      exact g_return dX9_finishes_163 rfl (Nat.le_of_ble_eq_true rfl) (Nat.le_of_ble_eq_true rfl) ⟨rfl, rfl, m_d, hm, fr⟩
    | succ j ih =>
      intro ys lg2 M hl hb hm m_d fr K1 K2 K3 K4 K5 K6
      have hbj := hb.get j
      have hs := snoc_of hl
      have hz : ys.getD j 0 = 0 → strip ys = strip (ys.take j) := fun q => by rw [q] at hs; rw [hs, strip_0, ← hs]
      have hnz : ys.getD j 0 ≠ 0 → strip ys = ys := fun q => by rw [hs, strip_n _ q, ← hs]
      obtain ⟨gm, m_ma, hm1, hm2⟩ := id hm
      have hgj := hm2 j (by omega)
      have ih2 := fun M2 h2 h3 fr2 => ih (ys.take j) lg2 M2 (by rw [List.length_take]; omega) (fun x hx => hb x (List.mem_of_mem_take hx)) h2 h3 fr2 K1 K2 K3 K4 K5 K6
      have elen : ((ys.take j).length : Int) = (ys.length : Int) - 1 := by rw [List.length_take]; omega
      refine g_aload_n dX9_finishes_129 rfl ?_
      refine z_getf fl_X9_73 dX9_finishes_130 m_d rfl ?_
      refine z_if_le (tgt := 163) dX9_finishes_133 (by decide) (by omega) (fun c133 => absurd c133 (by omega)) (fun c133 => ?_)
      refine g_aload_n dX9_finishes_136 rfl ?_
      refine z_getf fl_X9_23 dX9_finishes_137 m_d rfl ?_
      refine g_aload_n dX9_finishes_140 rfl ?_
      refine z_getf fl_X9_73 dX9_finishes_141 m_d rfl ?_
      refine z_iconst dX9_finishes_144 ?_
      refine z_isub dX9_finishes_145 ?_
      refine z_iaload (j := j) dX9_finishes_146 m_ma (by omega) (by omega) (by omega) ?_
      refine z_if_ne (tgt := 163) dX9_finishes_147 (by decide) (by omega) (fun c147 => ?_) (fun c147 => ?_)
      · exact g_return dX9_finishes_163 rfl (Nat.le_of_ble_eq_true rfl) (Nat.le_of_ble_eq_true rfl) ⟨rfl, rfl, by rw [hnz (by omega)]; exact m_d, by rw [hnz (by omega)]; exact hm, fr⟩
      · refine g_aload_n dX9_finishes_150 rfl ?_
        refine g_dup dX9_finishes_151 rfl ?_
        refine z_getf fl_X9_73 dX9_finishes_152 m_d rfl ?_
        refine z_iconst dX9_finishes_155 ?_
        refine z_isub dX9_finishes_156 ?_
        refine z_putf fl_X9_73 dX9_finishes_157 m_d rfl (Nat.le_of_ble_eq_true rfl) rfl rfl (fun M m_d o => ?_)
        have m_ma := (o _ (by omega)).trans m_ma
        have fr : (∀ x : Nat, ¬ (x = d ∨ x = d + 5) → M x = M0 x) := fun x hx => (o x (by omega)).trans (fr x hx)
        refine g_goto (tgt := 129) dX9_finishes_160 (by decide) ?_
        rw [hz (by omega)]
        refine ih2 M ⟨gm, m_ma, by rw [List.length_take]; omega, fun i hi => ?_⟩ (by rw [elen]; exact m_d) fr
        rw [List.length_take] at hi
        rw [hm2 i (by omega), List.getD_eq_getElem?_getD, List.getD_eq_getElem?_getD, List.getElem?_take_of_lt (by omega)]
  have app : ∀ (j k : Nat) (ys : List Int) (lg2 v : Int) (M : pM) (zz : Nat), zz ≤ 4 → k ≤ 4 - zz → 4 - zz - k = j → 0 ≤ v ∧ v ≤ 4294967296 → ys.length ≤ 1996 → okB ys → Ma M d (ys ++ byt v k) → M d = some (ro d pm ty lo ra ((ys ++ byt v k).length : Int) lg2 co ec cd wr tc mo tk fm) → (∀ x : Nat, ¬ (x = d ∨ x = d + 5) → M x = M0 x) → ∀ K1 K2 : Option Value, G I_X9_finishes 0 0 (fun M' z' r' => z' = z ∧ r' = none ∧ M' d = some (ro d pm ty lo ra (((strip (ys ++ byt v (4 - zz)))).length : Int) lg2 co ec cd wr tc mo tk fm) ∧ Ma M' d (strip (ys ++ byt v (4 - zz))) ∧ (∀ x : Nat, ¬ (x = d ∨ x = d + 5) → M' x = M0 x)) 0 0 80 [some (.ref d), K1, K2, some (vI (zz : Int)), some (vL v), none, some (vI (k : Int))] [] M z := by
    intro j
    induction j with
    | zero =>
      intro k ys lg2 v M zz hzz hk hj hv hl hb hm m_d fr K1 K2
      have ek : k = 4 - zz := by omega
      subst ek
      have hok : okB (ys ++ byt v (4 - zz)) := fun x hx => (List.mem_append.mp hx).elim (hb x) (byt_ok v _ x)
      refine g_iload dX9_finishes_80 rfl ?_
      refine z_iconst dX9_finishes_82 ?_
      refine g_iload_n dX9_finishes_83 rfl ?_
      refine z_isub dX9_finishes_84 ?_
      refine z_icmp_ge (tgt := 129) dX9_finishes_85 (by decide) (by omega) (by omega) (fun c85 => ?_) (fun c85 => absurd c85 (by omega))
      exact strp _ _ lg2 M rfl hok hm m_d fr _ _ _ _ _ _
    | succ j ih =>
      intro k ys lg2 v M zz hzz hk hj hv hl hb hm m_d fr K1 K2
      have hlen : (ys ++ byt v k).length = ys.length + k := by rw [List.length_append, byt_len]
      have e24 : (24 : Int) - 8 * (k : Int) = ((24 - 8 * k : Nat) : Int) := by omega
      have hdv : 0 ≤ v / 2 ^ (24 - 8 * k) := Int.ediv_nonneg hv.1 (Int.le_of_lt (Int.pow_pos (by decide)))
      obtain ⟨gm, m_ma, hm1, hm2⟩ := id hm
      have ih2 := fun M2 h2 h3 fr2 => ih (k + 1) ys lg2 v M2 zz hzz (by omega) (by omega) hv hl hb h2 h3 fr2 K1 K2
      rw [byt_s, ← List.append_assoc] at ih2
      have elen : ((ys ++ byt v k ++ [v / 2 ^ (24 - 8 * k) % 256]).length : Int) = ((ys ++ byt v k).length : Int) + 1 := by rw [List.length_append, List.length_singleton]; omega
      refine g_iload dX9_finishes_80 rfl ?_
      refine z_iconst dX9_finishes_82 ?_
      refine g_iload_n dX9_finishes_83 rfl ?_
      refine z_isub dX9_finishes_84 ?_
      refine z_icmp_ge (tgt := 129) dX9_finishes_85 (by decide) (by omega) (by omega) (fun c85 => absurd c85 (by omega)) (fun c85 => ?_)
      refine g_aload_n dX9_finishes_88 rfl ?_
      refine z_getf fl_X9_23 dX9_finishes_89 m_d rfl ?_
      refine g_aload_n dX9_finishes_92 rfl ?_
      refine z_getf fl_X9_73 dX9_finishes_93 m_d rfl ?_
      refine g_lload dX9_finishes_96 rfl ?_
      refine z_bipush dX9_finishes_98 (by decide +kernel) ?_
      refine z_bipush dX9_finishes_100 (by decide +kernel) ?_
      refine g_iload dX9_finishes_102 rfl ?_
      refine z_imul dX9_finishes_104 ?_
      refine z_isub dX9_finishes_105 ?_
      refine g_lshr dX9_finishes_106 ?_
      refine G.top (v' := vL (v / 2 ^ (24 - 8 * k))) (by rw [e24, lZ_shr (by omega) (by omega)]) ?_
      refine z_ldc2 (255) dX9_finishes_107 kc_X9_86 rfl ?_
      refine g_land dX9_finishes_110 ?_
      refine G.top (v' := vL (v / 2 ^ (24 - 8 * k) % 256)) (by rw [lZ_and255 hdv]) ?_
      refine z_l2i dX9_finishes_111 (by omega) ?_
      refine z_iastore (j := (ys ++ byt v k).length) dX9_finishes_112 m_ma (by omega) (by omega) (by omega) (fun M m_ma o => ?_)
      have m_d := (o _ (by omega)).trans m_d
      have fr : (∀ x : Nat, ¬ (x = d ∨ x = d + 5) → M x = M0 x) := fun x hx => (o x (by omega)).trans (fr x hx)
      refine g_aload_n dX9_finishes_113 rfl ?_
      refine g_dup dX9_finishes_114 rfl ?_
      refine z_getf fl_X9_73 dX9_finishes_115 m_d rfl ?_
      refine z_iconst dX9_finishes_118 ?_
      refine z_iadd dX9_finishes_119 ?_
      refine z_putf fl_X9_73 dX9_finishes_120 m_d rfl (Nat.le_of_ble_eq_true rfl) rfl rfl (fun M m_d o => ?_)
      have m_ma := (o _ (by omega)).trans m_ma
      have fr : (∀ x : Nat, ¬ (x = d ∨ x = d + 5) → M x = M0 x) := fun x hx => (o x (by omega)).trans (fr x hx)
      refine z_iinc dX9_finishes_123 rfl (Nat.le_of_ble_eq_true rfl) ?_
      refine g_goto (tgt := 80) dX9_finishes_126 (by decide) ?_
      refine ih2 M ⟨_, m_ma, by rw [List.length_append, List.length_singleton]; omega, fun i hi => ?_⟩ (by rw [elen]; exact m_d) fr
      rw [List.length_append, List.length_singleton] at hi
      by_cases e : i = (ys ++ byt v k).length
      · rw [e, upZ_s, getD_last]
      · rw [upZ_n e, hm2 i (by omega), getD_app (by omega)]
  have tail : ∀ (zz : Nat) (v : Int), zz = zf lo ra 4 → zz ≤ 4 → v = lm lo zz → v < lo + ra → ∀ K1 K2 K6 : Option Value, G I_X9_finishes 0 0 (fun M' z' r' => z' = z ∧ r' = none ∧ M' d = some (ro d pm ty lo ra (((efin (lo, ra, out, lg)).2.2.1).length : Int) (efin (lo, ra, out, lg)).2.2.2 co ec cd wr tc mo tk fm) ∧ Ma M' d (efin (lo, ra, out, lg)).2.2.1 ∧ (∀ x : Nat, ¬ (x = d ∨ x = d + 5) → M' x = M0 x)) 0 0 61 [some (.ref d), K1, K2, some (vI (zz : Int)), some (vL v), none, K6] [] M0 z := by
    intro zz v hz hz4 hv hvr K1 K2 K6
    have hlb := lm_b zz k1 hz4
    unfold efin
    dsimp only
    rw [← hz, ← hv]
    refine g_lload dX9_finishes_61 rfl ?_
    refine z_ldc2 (4294967296) dX9_finishes_63 kc_X9_68 rfl ?_
    refine z_lcmp dX9_finishes_66 (by omega) (by omega) (fun c66 => ?_) (fun c66 => ?_) (fun c66 => ?_)
    · refine z_if_ne (tgt := 77) dX9_finishes_67 (by decide) (by decide) (fun _ => ?_) (fun q => absurd q (by decide))
      refine z_iconst dX9_finishes_77 ?_
      refine g_istore dX9_finishes_78 (Nat.le_of_ble_eq_true rfl) ?_
      rw [if_neg (by omega)]
      exact app (4 - zz) 0 out lg v M0 zz hz4 (by omega) (by omega) (by omega) (by omega) k3 (by rw [show byt v 0 = [] from rfl, List.append_nil]; exact hm) (by rw [show byt v 0 = [] from rfl, List.append_nil]; exact m_d) fr _ _
    · refine z_if_ne (tgt := 77) dX9_finishes_67 (by decide) (by decide) (fun q => absurd q (by decide)) (fun _ => ?_)
      have hex : ∃ i, i < out.length ∧ out.getD i 0 ≠ 255 := cI_255 (low := 4294967296) (range := lo + ra - 4294967296) (by unfold cI at hc ⊢; omega) (by omega) (by omega)
      refine g_aload_n dX9_finishes_70 rfl ?_
      refine z_callVV dX9_finishes_71 lm_X9_79 lk_X9_carries (r_carries m_d hm k3 hex (by omega)) rfl rfl m_d rfl (mkRoom rfl rfl) (Nat.le_of_ble_eq_true rfl) (Nat.le_of_ble_eq_true rfl) (Nat.le_of_ble_eq_true rfl) (fun M r hp => ?_)
      obtain ⟨rfl, m_d, hm, o1⟩ := hp
      have fr : (∀ x : Nat, ¬ (x = d ∨ x = d + 5) → M x = M0 x) := fun x hx => (o1 x (by omega)).trans (fr x hx)
      refine z_lconst (a := 0) dX9_finishes_74 rfl ?_
      refine g_lstore dX9_finishes_75 (Nat.le_of_ble_eq_true rfl) ?_
      refine z_iconst dX9_finishes_77 ?_
      refine g_istore dX9_finishes_78 (Nat.le_of_ble_eq_true rfl) ?_
      rw [if_pos (by omega)]
      exact app (4 - zz) 0 (cry out).1 (max lg (cry out).2) 0 M zz hz4 (by omega) (by omega) (by omega) (by omega) hcr.1 (by rw [show byt 0 0 = [] from rfl, List.append_nil]; exact hm) (by rw [show byt 0 0 = [] from rfl, List.append_nil, hcl2]; exact m_d) fr _ _
    · refine z_if_ne (tgt := 77) dX9_finishes_67 (by decide) (by decide) (fun _ => ?_) (fun q => absurd q (by decide))
      refine z_iconst dX9_finishes_77 ?_
      refine g_istore dX9_finishes_78 (Nat.le_of_ble_eq_true rfl) ?_
      rw [if_neg (by omega)]
      exact app (4 - zz) 0 out lg v M0 zz hz4 (by omega) (by omega) (by omega) (by omega) k3 (by rw [show byt v 0 = [] from rfl, List.append_nil]; exact hm) (by rw [show byt v 0 = [] from rfl, List.append_nil]; exact m_d) fr _ _
  have lm0 : lm lo 0 = (lo + 1 - 1) / 1 * 1 := by unfold lm; rw [show (2 : Int) ^ (8 * 0) = 1 from by decide]
  have seg0 : zf lo ra 4 = zf lo ra 0 → ∀ K6 : Option Value, G I_X9_finishes 0 0 (fun M' z' r' => z' = z ∧ r' = none ∧ M' d = some (ro d pm ty lo ra (((efin (lo, ra, out, lg)).2.2.1).length : Int) (efin (lo, ra, out, lg)).2.2.2 co ec cd wr tc mo tk fm) ∧ Ma M' d (efin (lo, ra, out, lg)).2.2.1 ∧ (∀ x : Nat, ¬ (x = d ∨ x = d + 5) → M' x = M0 x)) 0 0 20 [some (.ref d), some (vL 1), none, some (vI 0), some (vL ((lo + 1 - 1) / 1 * 1)), none, K6] [] M0 z := by
    intro hz K6
    refine g_lload dX9_finishes_20 rfl ?_
    refine g_aload_n dX9_finishes_22 rfl ?_
    refine z_getf fl_X9_64 dX9_finishes_23 m_d rfl ?_
    refine g_aload_n dX9_finishes_26 rfl ?_
    refine z_getf fl_X9_70 dX9_finishes_27 m_d rfl ?_
    refine z_ladd dX9_finishes_30 ?_
    refine z_lcmp dX9_finishes_31 (by omega) (by omega) (fun c31 => ?_) (fun c31 => ?_) (fun c31 => ?_)
    · refine z_if_lt (tgt := 61) dX9_finishes_32 (by decide) (by decide) (fun q => absurd q (by decide)) (fun _ => ?_)
      exfalso; omega
    · refine z_if_lt (tgt := 61) dX9_finishes_32 (by decide) (by decide) (fun q => absurd q (by decide)) (fun _ => ?_)
      exfalso; omega
    · refine z_if_lt (tgt := 61) dX9_finishes_32 (by decide) (by decide) (fun _ => ?_) (fun q => absurd q (by decide))
      exact tail 0 _ hz.symm (by omega) lm0.symm (by omega) _ _ _
  have lm1 : lm lo 1 = (lo + 256 - 1) / 256 * 256 := by unfold lm; rw [show (2 : Int) ^ (8 * 1) = 256 from by decide]
  have seg1 : zf lo ra 4 = zf lo ra 1 → ∀ K6 : Option Value, G I_X9_finishes 0 0 (fun M' z' r' => z' = z ∧ r' = none ∧ M' d = some (ro d pm ty lo ra (((efin (lo, ra, out, lg)).2.2.1).length : Int) (efin (lo, ra, out, lg)).2.2.2 co ec cd wr tc mo tk fm) ∧ Ma M' d (efin (lo, ra, out, lg)).2.2.1 ∧ (∀ x : Nat, ¬ (x = d ∨ x = d + 5) → M' x = M0 x)) 0 0 20 [some (.ref d), some (vL 256), none, some (vI 1), some (vL ((lo + 256 - 1) / 256 * 256)), none, K6] [] M0 z := by
    intro hz K6
    have hzz : zf lo ra 1 = if lo + ra ≤ lm lo 1 then zf lo ra 0 else 1 := rfl
    rw [lm1] at hzz
    refine g_lload dX9_finishes_20 rfl ?_
    refine g_aload_n dX9_finishes_22 rfl ?_
    refine z_getf fl_X9_64 dX9_finishes_23 m_d rfl ?_
    refine g_aload_n dX9_finishes_26 rfl ?_
    refine z_getf fl_X9_70 dX9_finishes_27 m_d rfl ?_
    refine z_ladd dX9_finishes_30 ?_
    refine z_lcmp dX9_finishes_31 (by omega) (by omega) (fun c31 => ?_) (fun c31 => ?_) (fun c31 => ?_)
    · refine z_if_lt (tgt := 61) dX9_finishes_32 (by decide) (by decide) (fun q => absurd q (by decide)) (fun _ => ?_)
      refine g_lload_n dX9_finishes_35 rfl ?_
      refine z_ldc2 (256) dX9_finishes_36 kc_X9_84 rfl ?_
      refine z_ldiv dX9_finishes_39 (by omega) (by omega) ?_
      refine G.top (v' := vL 1) (by decide) ?_
      refine g_lstore_n dX9_finishes_40 rfl (Nat.le_of_ble_eq_true rfl) ?_
      refine z_iinc dX9_finishes_41 rfl (Nat.le_of_ble_eq_true rfl) ?_
      refine g_aload_n dX9_finishes_44 rfl ?_
      refine z_getf fl_X9_64 dX9_finishes_45 m_d rfl ?_
      refine g_lload_n dX9_finishes_48 rfl ?_
      refine z_ladd dX9_finishes_49 ?_
      refine z_lconst (a := 1) dX9_finishes_50 rfl ?_
      refine z_lsub dX9_finishes_51 ?_
      refine g_lload_n dX9_finishes_52 rfl ?_
      refine z_ldiv dX9_finishes_53 (by omega) (by omega) ?_
      refine g_lload_n dX9_finishes_54 rfl ?_
      refine z_lmul dX9_finishes_55 ?_
      refine g_lstore dX9_finishes_56 (Nat.le_of_ble_eq_true rfl) ?_
      refine g_goto (tgt := 20) dX9_finishes_58 (by decide) ?_
      rw [if_pos (by omega)] at hzz
      exact seg0 (hz.trans hzz) _
    · refine z_if_lt (tgt := 61) dX9_finishes_32 (by decide) (by decide) (fun q => absurd q (by decide)) (fun _ => ?_)
      refine g_lload_n dX9_finishes_35 rfl ?_
      refine z_ldc2 (256) dX9_finishes_36 kc_X9_84 rfl ?_
      refine z_ldiv dX9_finishes_39 (by omega) (by omega) ?_
      refine G.top (v' := vL 1) (by decide) ?_
      refine g_lstore_n dX9_finishes_40 rfl (Nat.le_of_ble_eq_true rfl) ?_
      refine z_iinc dX9_finishes_41 rfl (Nat.le_of_ble_eq_true rfl) ?_
      refine g_aload_n dX9_finishes_44 rfl ?_
      refine z_getf fl_X9_64 dX9_finishes_45 m_d rfl ?_
      refine g_lload_n dX9_finishes_48 rfl ?_
      refine z_ladd dX9_finishes_49 ?_
      refine z_lconst (a := 1) dX9_finishes_50 rfl ?_
      refine z_lsub dX9_finishes_51 ?_
      refine g_lload_n dX9_finishes_52 rfl ?_
      refine z_ldiv dX9_finishes_53 (by omega) (by omega) ?_
      refine g_lload_n dX9_finishes_54 rfl ?_
      refine z_lmul dX9_finishes_55 ?_
      refine g_lstore dX9_finishes_56 (Nat.le_of_ble_eq_true rfl) ?_
      refine g_goto (tgt := 20) dX9_finishes_58 (by decide) ?_
      rw [if_pos (by omega)] at hzz
      exact seg0 (hz.trans hzz) _
    · refine z_if_lt (tgt := 61) dX9_finishes_32 (by decide) (by decide) (fun _ => ?_) (fun q => absurd q (by decide))
      exact tail 1 _ (by rw [hz, hzz, if_neg (by omega)]) (by omega) lm1.symm (by omega) _ _ _
  have lm2 : lm lo 2 = (lo + 65536 - 1) / 65536 * 65536 := by unfold lm; rw [show (2 : Int) ^ (8 * 2) = 65536 from by decide]
  have seg2 : zf lo ra 4 = zf lo ra 2 → ∀ K6 : Option Value, G I_X9_finishes 0 0 (fun M' z' r' => z' = z ∧ r' = none ∧ M' d = some (ro d pm ty lo ra (((efin (lo, ra, out, lg)).2.2.1).length : Int) (efin (lo, ra, out, lg)).2.2.2 co ec cd wr tc mo tk fm) ∧ Ma M' d (efin (lo, ra, out, lg)).2.2.1 ∧ (∀ x : Nat, ¬ (x = d ∨ x = d + 5) → M' x = M0 x)) 0 0 20 [some (.ref d), some (vL 65536), none, some (vI 2), some (vL ((lo + 65536 - 1) / 65536 * 65536)), none, K6] [] M0 z := by
    intro hz K6
    have hzz : zf lo ra 2 = if lo + ra ≤ lm lo 2 then zf lo ra 1 else 2 := rfl
    rw [lm2] at hzz
    refine g_lload dX9_finishes_20 rfl ?_
    refine g_aload_n dX9_finishes_22 rfl ?_
    refine z_getf fl_X9_64 dX9_finishes_23 m_d rfl ?_
    refine g_aload_n dX9_finishes_26 rfl ?_
    refine z_getf fl_X9_70 dX9_finishes_27 m_d rfl ?_
    refine z_ladd dX9_finishes_30 ?_
    refine z_lcmp dX9_finishes_31 (by omega) (by omega) (fun c31 => ?_) (fun c31 => ?_) (fun c31 => ?_)
    · refine z_if_lt (tgt := 61) dX9_finishes_32 (by decide) (by decide) (fun q => absurd q (by decide)) (fun _ => ?_)
      refine g_lload_n dX9_finishes_35 rfl ?_
      refine z_ldc2 (256) dX9_finishes_36 kc_X9_84 rfl ?_
      refine z_ldiv dX9_finishes_39 (by omega) (by omega) ?_
      refine G.top (v' := vL 256) (by decide) ?_
      refine g_lstore_n dX9_finishes_40 rfl (Nat.le_of_ble_eq_true rfl) ?_
      refine z_iinc dX9_finishes_41 rfl (Nat.le_of_ble_eq_true rfl) ?_
      refine g_aload_n dX9_finishes_44 rfl ?_
      refine z_getf fl_X9_64 dX9_finishes_45 m_d rfl ?_
      refine g_lload_n dX9_finishes_48 rfl ?_
      refine z_ladd dX9_finishes_49 ?_
      refine z_lconst (a := 1) dX9_finishes_50 rfl ?_
      refine z_lsub dX9_finishes_51 ?_
      refine g_lload_n dX9_finishes_52 rfl ?_
      refine z_ldiv dX9_finishes_53 (by omega) (by omega) ?_
      refine g_lload_n dX9_finishes_54 rfl ?_
      refine z_lmul dX9_finishes_55 ?_
      refine g_lstore dX9_finishes_56 (Nat.le_of_ble_eq_true rfl) ?_
      refine g_goto (tgt := 20) dX9_finishes_58 (by decide) ?_
      rw [if_pos (by omega)] at hzz
      exact seg1 (hz.trans hzz) _
    · refine z_if_lt (tgt := 61) dX9_finishes_32 (by decide) (by decide) (fun q => absurd q (by decide)) (fun _ => ?_)
      refine g_lload_n dX9_finishes_35 rfl ?_
      refine z_ldc2 (256) dX9_finishes_36 kc_X9_84 rfl ?_
      refine z_ldiv dX9_finishes_39 (by omega) (by omega) ?_
      refine G.top (v' := vL 256) (by decide) ?_
      refine g_lstore_n dX9_finishes_40 rfl (Nat.le_of_ble_eq_true rfl) ?_
      refine z_iinc dX9_finishes_41 rfl (Nat.le_of_ble_eq_true rfl) ?_
      refine g_aload_n dX9_finishes_44 rfl ?_
      refine z_getf fl_X9_64 dX9_finishes_45 m_d rfl ?_
      refine g_lload_n dX9_finishes_48 rfl ?_
      refine z_ladd dX9_finishes_49 ?_
      refine z_lconst (a := 1) dX9_finishes_50 rfl ?_
      refine z_lsub dX9_finishes_51 ?_
      refine g_lload_n dX9_finishes_52 rfl ?_
      refine z_ldiv dX9_finishes_53 (by omega) (by omega) ?_
      refine g_lload_n dX9_finishes_54 rfl ?_
      refine z_lmul dX9_finishes_55 ?_
      refine g_lstore dX9_finishes_56 (Nat.le_of_ble_eq_true rfl) ?_
      refine g_goto (tgt := 20) dX9_finishes_58 (by decide) ?_
      rw [if_pos (by omega)] at hzz
      exact seg1 (hz.trans hzz) _
    · refine z_if_lt (tgt := 61) dX9_finishes_32 (by decide) (by decide) (fun _ => ?_) (fun q => absurd q (by decide))
      exact tail 2 _ (by rw [hz, hzz, if_neg (by omega)]) (by omega) lm2.symm (by omega) _ _ _
  have lm3 : lm lo 3 = (lo + 16777216 - 1) / 16777216 * 16777216 := by unfold lm; rw [show (2 : Int) ^ (8 * 3) = 16777216 from by decide]
  have seg3 : zf lo ra 4 = zf lo ra 3 → ∀ K6 : Option Value, G I_X9_finishes 0 0 (fun M' z' r' => z' = z ∧ r' = none ∧ M' d = some (ro d pm ty lo ra (((efin (lo, ra, out, lg)).2.2.1).length : Int) (efin (lo, ra, out, lg)).2.2.2 co ec cd wr tc mo tk fm) ∧ Ma M' d (efin (lo, ra, out, lg)).2.2.1 ∧ (∀ x : Nat, ¬ (x = d ∨ x = d + 5) → M' x = M0 x)) 0 0 20 [some (.ref d), some (vL 16777216), none, some (vI 3), some (vL ((lo + 16777216 - 1) / 16777216 * 16777216)), none, K6] [] M0 z := by
    intro hz K6
    have hzz : zf lo ra 3 = if lo + ra ≤ lm lo 3 then zf lo ra 2 else 3 := rfl
    rw [lm3] at hzz
    refine g_lload dX9_finishes_20 rfl ?_
    refine g_aload_n dX9_finishes_22 rfl ?_
    refine z_getf fl_X9_64 dX9_finishes_23 m_d rfl ?_
    refine g_aload_n dX9_finishes_26 rfl ?_
    refine z_getf fl_X9_70 dX9_finishes_27 m_d rfl ?_
    refine z_ladd dX9_finishes_30 ?_
    refine z_lcmp dX9_finishes_31 (by omega) (by omega) (fun c31 => ?_) (fun c31 => ?_) (fun c31 => ?_)
    · refine z_if_lt (tgt := 61) dX9_finishes_32 (by decide) (by decide) (fun q => absurd q (by decide)) (fun _ => ?_)
      refine g_lload_n dX9_finishes_35 rfl ?_
      refine z_ldc2 (256) dX9_finishes_36 kc_X9_84 rfl ?_
      refine z_ldiv dX9_finishes_39 (by omega) (by omega) ?_
      refine G.top (v' := vL 65536) (by decide) ?_
      refine g_lstore_n dX9_finishes_40 rfl (Nat.le_of_ble_eq_true rfl) ?_
      refine z_iinc dX9_finishes_41 rfl (Nat.le_of_ble_eq_true rfl) ?_
      refine g_aload_n dX9_finishes_44 rfl ?_
      refine z_getf fl_X9_64 dX9_finishes_45 m_d rfl ?_
      refine g_lload_n dX9_finishes_48 rfl ?_
      refine z_ladd dX9_finishes_49 ?_
      refine z_lconst (a := 1) dX9_finishes_50 rfl ?_
      refine z_lsub dX9_finishes_51 ?_
      refine g_lload_n dX9_finishes_52 rfl ?_
      refine z_ldiv dX9_finishes_53 (by omega) (by omega) ?_
      refine g_lload_n dX9_finishes_54 rfl ?_
      refine z_lmul dX9_finishes_55 ?_
      refine g_lstore dX9_finishes_56 (Nat.le_of_ble_eq_true rfl) ?_
      refine g_goto (tgt := 20) dX9_finishes_58 (by decide) ?_
      rw [if_pos (by omega)] at hzz
      exact seg2 (hz.trans hzz) _
    · refine z_if_lt (tgt := 61) dX9_finishes_32 (by decide) (by decide) (fun q => absurd q (by decide)) (fun _ => ?_)
      refine g_lload_n dX9_finishes_35 rfl ?_
      refine z_ldc2 (256) dX9_finishes_36 kc_X9_84 rfl ?_
      refine z_ldiv dX9_finishes_39 (by omega) (by omega) ?_
      refine G.top (v' := vL 65536) (by decide) ?_
      refine g_lstore_n dX9_finishes_40 rfl (Nat.le_of_ble_eq_true rfl) ?_
      refine z_iinc dX9_finishes_41 rfl (Nat.le_of_ble_eq_true rfl) ?_
      refine g_aload_n dX9_finishes_44 rfl ?_
      refine z_getf fl_X9_64 dX9_finishes_45 m_d rfl ?_
      refine g_lload_n dX9_finishes_48 rfl ?_
      refine z_ladd dX9_finishes_49 ?_
      refine z_lconst (a := 1) dX9_finishes_50 rfl ?_
      refine z_lsub dX9_finishes_51 ?_
      refine g_lload_n dX9_finishes_52 rfl ?_
      refine z_ldiv dX9_finishes_53 (by omega) (by omega) ?_
      refine g_lload_n dX9_finishes_54 rfl ?_
      refine z_lmul dX9_finishes_55 ?_
      refine g_lstore dX9_finishes_56 (Nat.le_of_ble_eq_true rfl) ?_
      refine g_goto (tgt := 20) dX9_finishes_58 (by decide) ?_
      rw [if_pos (by omega)] at hzz
      exact seg2 (hz.trans hzz) _
    · refine z_if_lt (tgt := 61) dX9_finishes_32 (by decide) (by decide) (fun _ => ?_) (fun q => absurd q (by decide))
      exact tail 3 _ (by rw [hz, hzz, if_neg (by omega)]) (by omega) lm3.symm (by omega) _ _ _
  have lm4 : lm lo 4 = (lo + 4294967296 - 1) / 4294967296 * 4294967296 := by unfold lm; rw [show (2 : Int) ^ (8 * 4) = 4294967296 from by decide]
  have seg4 : zf lo ra 4 = zf lo ra 4 → ∀ K6 : Option Value, G I_X9_finishes 0 0 (fun M' z' r' => z' = z ∧ r' = none ∧ M' d = some (ro d pm ty lo ra (((efin (lo, ra, out, lg)).2.2.1).length : Int) (efin (lo, ra, out, lg)).2.2.2 co ec cd wr tc mo tk fm) ∧ Ma M' d (efin (lo, ra, out, lg)).2.2.1 ∧ (∀ x : Nat, ¬ (x = d ∨ x = d + 5) → M' x = M0 x)) 0 0 20 [some (.ref d), some (vL 4294967296), none, some (vI 4), some (vL ((lo + 4294967296 - 1) / 4294967296 * 4294967296)), none, K6] [] M0 z := by
    intro hz K6
    have hzz : zf lo ra 4 = if lo + ra ≤ lm lo 4 then zf lo ra 3 else 4 := rfl
    rw [lm4] at hzz
    refine g_lload dX9_finishes_20 rfl ?_
    refine g_aload_n dX9_finishes_22 rfl ?_
    refine z_getf fl_X9_64 dX9_finishes_23 m_d rfl ?_
    refine g_aload_n dX9_finishes_26 rfl ?_
    refine z_getf fl_X9_70 dX9_finishes_27 m_d rfl ?_
    refine z_ladd dX9_finishes_30 ?_
    refine z_lcmp dX9_finishes_31 (by omega) (by omega) (fun c31 => ?_) (fun c31 => ?_) (fun c31 => ?_)
    · refine z_if_lt (tgt := 61) dX9_finishes_32 (by decide) (by decide) (fun q => absurd q (by decide)) (fun _ => ?_)
      refine g_lload_n dX9_finishes_35 rfl ?_
      refine z_ldc2 (256) dX9_finishes_36 kc_X9_84 rfl ?_
      refine z_ldiv dX9_finishes_39 (by omega) (by omega) ?_
      refine G.top (v' := vL 16777216) (by decide) ?_
      refine g_lstore_n dX9_finishes_40 rfl (Nat.le_of_ble_eq_true rfl) ?_
      refine z_iinc dX9_finishes_41 rfl (Nat.le_of_ble_eq_true rfl) ?_
      refine g_aload_n dX9_finishes_44 rfl ?_
      refine z_getf fl_X9_64 dX9_finishes_45 m_d rfl ?_
      refine g_lload_n dX9_finishes_48 rfl ?_
      refine z_ladd dX9_finishes_49 ?_
      refine z_lconst (a := 1) dX9_finishes_50 rfl ?_
      refine z_lsub dX9_finishes_51 ?_
      refine g_lload_n dX9_finishes_52 rfl ?_
      refine z_ldiv dX9_finishes_53 (by omega) (by omega) ?_
      refine g_lload_n dX9_finishes_54 rfl ?_
      refine z_lmul dX9_finishes_55 ?_
      refine g_lstore dX9_finishes_56 (Nat.le_of_ble_eq_true rfl) ?_
      refine g_goto (tgt := 20) dX9_finishes_58 (by decide) ?_
      rw [if_pos (by omega)] at hzz
      exact seg3 (hz.trans hzz) _
    · refine z_if_lt (tgt := 61) dX9_finishes_32 (by decide) (by decide) (fun q => absurd q (by decide)) (fun _ => ?_)
      refine g_lload_n dX9_finishes_35 rfl ?_
      refine z_ldc2 (256) dX9_finishes_36 kc_X9_84 rfl ?_
      refine z_ldiv dX9_finishes_39 (by omega) (by omega) ?_
      refine G.top (v' := vL 16777216) (by decide) ?_
      refine g_lstore_n dX9_finishes_40 rfl (Nat.le_of_ble_eq_true rfl) ?_
      refine z_iinc dX9_finishes_41 rfl (Nat.le_of_ble_eq_true rfl) ?_
      refine g_aload_n dX9_finishes_44 rfl ?_
      refine z_getf fl_X9_64 dX9_finishes_45 m_d rfl ?_
      refine g_lload_n dX9_finishes_48 rfl ?_
      refine z_ladd dX9_finishes_49 ?_
      refine z_lconst (a := 1) dX9_finishes_50 rfl ?_
      refine z_lsub dX9_finishes_51 ?_
      refine g_lload_n dX9_finishes_52 rfl ?_
      refine z_ldiv dX9_finishes_53 (by omega) (by omega) ?_
      refine g_lload_n dX9_finishes_54 rfl ?_
      refine z_lmul dX9_finishes_55 ?_
      refine g_lstore dX9_finishes_56 (Nat.le_of_ble_eq_true rfl) ?_
      refine g_goto (tgt := 20) dX9_finishes_58 (by decide) ?_
      rw [if_pos (by omega)] at hzz
      exact seg3 (hz.trans hzz) _
    · refine z_if_lt (tgt := 61) dX9_finishes_32 (by decide) (by decide) (fun _ => ?_) (fun q => absurd q (by decide))
      exact tail 4 _ (by rw [hz, hzz, if_neg (by omega)]) (by omega) lm4.symm (by omega) _ _ _
  refine z_ldc2 (4294967296) dX9_finishes_0 kc_X9_68 rfl ?_
  refine g_lstore_n dX9_finishes_3 rfl (Nat.le_of_ble_eq_true rfl) ?_
  refine z_iconst dX9_finishes_4 ?_
  refine g_istore_n dX9_finishes_5 rfl (Nat.le_of_ble_eq_true rfl) ?_
  refine g_aload_n dX9_finishes_6 rfl ?_
  refine z_getf fl_X9_64 dX9_finishes_7 m_d rfl ?_
  refine g_lload_n dX9_finishes_10 rfl ?_
  refine z_ladd dX9_finishes_11 ?_
  refine z_lconst (a := 1) dX9_finishes_12 rfl ?_
  refine z_lsub dX9_finishes_13 ?_
  refine g_lload_n dX9_finishes_14 rfl ?_
  refine z_ldiv dX9_finishes_15 (by omega) (by omega) ?_
  refine g_lload_n dX9_finishes_16 rfl ?_
  refine z_lmul dX9_finishes_17 ?_
  refine g_lstore dX9_finishes_18 (Nat.le_of_ble_eq_true rfl) ?_
  exact seg4 rfl _
