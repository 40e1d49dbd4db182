/-! the reference: counting and learning -/
theorem gr_up {g : Nat → Int} {i s : Nat} {v : Int} : gr (upZ g (260 + 96 * i + s) v) i = upZ (gr g i) s v := by
  funext x
  show upZ g (260 + 96 * i + s) v (260 + 96 * i + x) = upZ (gr g i) s v x
  unfold upZ
  by_cases e : x = s
  · rw [if_pos (by omega), if_pos e]
  · rw [if_neg (by omega), if_neg e]
theorem grw_cong {c e : Nat → Int} {s x : Nat} {stp lim : Int} (h : ∀ s, s < 96 → c s = e s) (hs : s < 96) (hx : x < 96) : grw c s stp lim x = grw e s stp lim x := by
  have hu : ∀ y, y < 96 → upZ c s (c s + stp) y = upZ e s (e s + stp) y := fun y hy => by
    unfold upZ
    rw [h s hs, h y hy]
  have hw : wt (upZ c s (c s + stp)) = wt (upZ e s (e s + stp)) := sm_cong hu
  unfold grw
  rw [hw]
  split
  · show (upZ c s (c s + stp) x + 1) / 2 = (upZ e s (e s + stp) x + 1) / 2
    rw [hu x hx]
  · exact hu x hx
/-- all of the row but the counts -/
def VO (g g' : Nat → Int) : Prop := ∀ x : Nat, (x < 4 ∨ (4 < x ∧ x < 10) ∨ 24260 ≤ x) → g' x = g x
theorem VO.rf {g : Nat → Int} : VO g g := fun _ _ => rfl
theorem VO.tr {g h k : Nat → Int} (a : VO g h) (b : VO h k) : VO g k := fun x hx => (b x hx).trans (a x hx)
theorem VM.raised {g g' : Nat → Int} {t : tbl} {i s : Nat} {stp lim : Int} (h : VM g t) (hi : i < t.length) (hs : s < 96) (h1 : ∀ x, x < 96 → gr g' i x = grw (gr g i) s stp lim x) (h2 : ∀ x, (x < 260 + 96 * i ∨ 260 + 96 * i + 96 ≤ x) → g' x = g x) : VM g' (rse t i s stp lim) := by
  obtain ⟨v1, v2, v3⟩ := h
  unfold rse
  rw [List.getElem?_eq_getElem hi]
  refine ⟨?_, ?_, fun k hk => ?_⟩
  · dsimp only; rw [List.length_set, h2 4 (by omega)]; exact v1
  · dsimp only; rw [List.length_set]; exact v2
  · dsimp only at hk ⊢
    rw [List.length_set] at hk
    obtain ⟨a1, a2⟩ := v3 k hk
    rw [List.getElem_set]
    by_cases e : i = k
    · subst e
      rw [if_pos rfl]
      refine ⟨by rw [h2 (10 + i) (by omega)]; exact a1, fun x hx => ?_⟩
      rw [h1 x hx]
      dsimp only
      exact grw_cong (c := gr g i) (e := t[i].2) (s := s) (x := x) (stp := stp) (lim := lim) a2 hs hx
    · rw [if_neg e]
      refine ⟨by rw [h2 (10 + k) (by omega)]; exact a1, fun x hx => ?_⟩
      rw [← a2 x hx]
      exact h2 _ (by omega)
theorem VM.app {g g' : Nat → Int} {t : tbl} {c : List Int} (h : VM g t) (hl : t.length < 250) (hc : okX c) (hcl : c.length ≤ 3) (h1 : g' (10 + t.length) = rk c) (h0 : ∀ x, x < 96 → gr g' t.length x = 0) (h4 : g' 4 = (t.length : Int) + 1) (h2 : ∀ x, x ≠ 4 → x ≠ 10 + t.length → (x < 260 + 96 * t.length ∨ 260 + 96 * t.length + 96 ≤ x) → g' x = g x) : VM g' (t ++ [(ck c, fun _ => 0)]) := by
  obtain ⟨v1, v2, v3⟩ := h
  refine ⟨?_, ?_, fun k hk => ?_⟩
  · rw [h4, List.length_append, List.length_singleton]; omega
  · rw [List.length_append, List.length_singleton]; omega
  · rw [List.length_append, List.length_singleton] at hk
    by_cases e : k < t.length
    · rw [List.getElem_append_left e]
      obtain ⟨a1, a2⟩ := v3 k e
      exact ⟨by rw [h2 (10 + k) (by omega) (by omega) (by omega)]; exact a1, fun x hx => by rw [← a2 x hx]; exact h2 _ (by omega) (by omega) (by omega)⟩
    · have e2 : k = t.length := by omega
      subst e2
      rw [List.getElem_append_right (Nat.le_refl _)]
      simp only [Nat.sub_self, List.getElem_singleton]
      exact ⟨⟨c, hc, hcl, rfl, h1.symm⟩, h0⟩
set_option maxHeartbeats 1000000 in
theorem r_counts {M0 : pM} {z d : Nat} {pm ty lo ra mm lg co ec cd wr tc mo tk fm : Int} (m_d : M0 d = some (ro d pm ty lo ra mm lg co ec cd wr tc mo tk fm)) {g : Nat → Int} (m_v : M0 (d + 1) = some (arI 25700 g)) {i s : Nat} (hi : i < 250) (hs : s < 96) (hr : ∀ s, s < 96 → 0 ≤ gr g i s ∧ gr g i s ≤ 1010) (hw : wt (gr g i) ≤ 1000) (h2 : 1 ≤ g 2 ∧ g 2 ≤ 10) (h3 : 20 ≤ g 3 ∧ g 3 ≤ 1000) : CW I_X9_counts yX9_counts [.ref d, vI (i : Int), vI (s : Int)] M0 z (fun M' r => r = none ∧ (∃ g', M' (d + 1) = some (arI 25700 g') ∧ (∀ x, x < 96 → gr g' i x = grw (gr g i) s (g 2) (g 3) x) ∧ (∀ x, (x < 260 + 96 * i ∨ 260 + 96 * i + 96 ≤ x) → g' x = g x)) ∧ (∀ x : Nat, ¬ (x = d + 1) → M' x = M0 x)) := by
  have fr : (∀ x : Nat, ¬ (x = d + 1) → M0 x = M0 x) := fun _ _ => rfl
  refine C.intro (pl := [some (.ref d), some (vI (i : Int)), some (vI (s : Int)), none]) pn_X9 rfl (fun h => absurd h (by decide)) rfl (Nat.le_of_ble_eq_true rfl) rfl ?_
  have eg : gr (upZ g (260 + 96 * i + s) (g (260 + 96 * i + s) + g 2)) i = upZ (gr g i) s (gr g i s + g 2) := gr_up
  have ho : ∀ x, (x < 260 + 96 * i ∨ 260 + 96 * i + 96 ≤ x) → upZ g (260 + 96 * i + s) (g (260 + 96 * i + s) + g 2) x = g x := fun x hx => upZ_n (by omega)
  have hwu : wt (upZ (gr g i) s (gr g i s + g 2)) = wt (gr g i) + g 2 := by unfold wt; rw [sm_up hs]; omega
  have hw0 : 0 ≤ wt (gr g i) := sm_nn (fun x hx => (hr x hx).1)
  have hu : ∀ x, x < 96 → 0 ≤ upZ (gr g i) s (gr g i s + g 2) x ∧ upZ (gr g i) s (gr g i s + g 2) x ≤ 1020 := fun x hx => by
    have a1 := hr x hx
    have a2 := hr s hs
    unfold upZ
    split <;> omega
  generalize hgu : upZ g (260 + 96 * i + s) (g (260 + 96 * i + s) + g 2) = gu at eg ho
  have loop : wt (upZ (gr g i) s (gr g i s + g 2)) > g 3 → ∀ (k j : Nat) (M : pM) (g1 : Nat → Int), j + k = 96 → M d = some (ro d pm ty lo ra mm lg co ec cd wr tc mo tk fm) → M (d + 1) = some (arI 25700 g1) → (∀ x, x < 96 → gr g1 i x = if x < j then (upZ (gr g i) s (gr g i s + g 2) x + 1) / 2 else upZ (gr g i) s (gr g i s + g 2) x) → (∀ x, (x < 260 + 96 * i ∨ 260 + 96 * i + 96 ≤ x) → g1 x = g x) → (∀ x : Nat, ¬ (x = d + 1) → M x = M0 x) → G I_X9_counts 0 0 (fun M' z' r' => z' = z ∧ r' = none ∧ (∃ g', M' (d + 1) = some (arI 25700 g') ∧ (∀ x, x < 96 → gr g' i x = grw (gr g i) s (g 2) (g 3) x) ∧ (∀ x, (x < 260 + 96 * i ∨ 260 + 96 * i + 96 ≤ x) → g' x = g x)) ∧ (∀ x : Nat, ¬ (x = d + 1) → M' x = M0 x)) 0 0 40 [some (.ref d), some (vI (i : Int)), some (vI (s : Int)), some (vI (j : Int))] [] M z := by
    intro hgt k
    induction k with
    | zero =>
      intro j M g1 hj m_d m_v hx1 hx2 fr
      have e : j = 96 := by omega
      subst e
      refine g_iload_n dX9_counts_40 rfl ?_
      refine z_bipush dX9_counts_41 (by decide +kernel) ?_
      refine z_icmp_ge (tgt := 77) dX9_counts_43 (by decide) (by omega) (by omega) (fun c43 => ?_) (fun c43 => absurd c43 (by omega))
      exact g_return dX9_counts_77 rfl (Nat.le_of_ble_eq_true rfl) (Nat.le_of_ble_eq_true rfl) ⟨rfl, rfl, ⟨g1, m_v, fun x hx => by rw [hx1 x hx, if_pos hx]; unfold grw; rw [if_pos hgt], hx2⟩, fr⟩
    | succ k ih =>
      intro j M g1 hj m_d m_v hx1 hx2 fr
      have hc := hx1 j (by omega)
      rw [if_neg (by omega)] at hc
      have hcu := hu j (by omega)
      have hc2 : gr g1 i j = g1 (260 + 96 * i + j) := rfl
      refine g_iload_n dX9_counts_40 rfl ?_
      refine z_bipush dX9_counts_41 (by decide +kernel) ?_
      refine z_icmp_ge (tgt := 77) dX9_counts_43 (by decide) (by omega) (by omega) (fun c43 => absurd c43 (by omega)) (fun c43 => ?_)
      refine g_aload_n dX9_counts_46 rfl ?_
      refine z_getf fl_X9_7 dX9_counts_47 m_d rfl ?_
      refine z_sipush dX9_counts_50 (by decide +kernel) ?_
      refine z_bipush dX9_counts_53 (by decide +kernel) ?_
      refine g_iload_n dX9_counts_55 rfl ?_
      refine z_imul dX9_counts_56 ?_
      refine z_iadd dX9_counts_57 ?_
      refine g_iload_n dX9_counts_58 rfl ?_
      refine z_iadd dX9_counts_59 ?_
      refine g_aload_n dX9_counts_60 rfl ?_
      refine g_iload_n dX9_counts_61 rfl ?_
      refine g_iload_n dX9_counts_62 rfl ?_
      refine z_callVR dX9_counts_63 lm_X9_49 lk_X9_countAt (r_countAt m_d m_v hi (by omega)) rfl rfl m_d rfl (mkRoom rfl rfl) (Nat.le_of_ble_eq_true rfl) (Nat.le_of_ble_eq_true rfl) (Nat.le_of_ble_eq_true rfl) ?_
      refine z_iconst dX9_counts_66 ?_
      refine z_iadd dX9_counts_67 ?_
      refine z_iconst dX9_counts_68 ?_
      refine z_idiv dX9_counts_69 (by omega) (by omega) ?_
      refine z_iastore (j := 260 + 96 * i + j) dX9_counts_70 m_v (by omega) (by omega) (by omega) (fun M m_v o => ?_)
      have m_d := (o _ (by omega)).trans m_d
      have fr : (∀ x : Nat, ¬ (x = d + 1) → M x = M0 x) := fun x hx => (o x (by omega)).trans (fr x hx)
      refine z_iinc dX9_counts_71 rfl (Nat.le_of_ble_eq_true rfl) ?_
      refine g_goto (tgt := 40) dX9_counts_74 (by decide) ?_
      refine ih (j + 1) M _ (by omega) m_d m_v (fun x hx => ?_) (fun x hx => ?_) fr
      · rw [show gr (upZ g1 (260 + 96 * i + j) ((gr g1 i j + 1) / 2)) i = upZ (gr g1 i) j ((gr g1 i j + 1) / 2) from gr_up]
        by_cases e : x = j
        · subst e
          rw [upZ_s, if_pos (by omega), hc]
        · rw [upZ_n e, hx1 x hx]
          by_cases e2 : x < j
          · rw [if_pos e2, if_pos (by omega)]
          · rw [if_neg e2, if_neg (by omega)]
      · rw [upZ_n (by omega)]
        exact hx2 x hx
  refine g_aload_n dX9_counts_0 rfl ?_
  refine z_getf fl_X9_7 dX9_counts_1 m_d rfl ?_
  refine z_sipush dX9_counts_4 (by decide +kernel) ?_
  refine z_bipush dX9_counts_7 (by decide +kernel) ?_
  refine g_iload_n dX9_counts_9 rfl ?_
  refine z_imul dX9_counts_10 ?_
  refine z_iadd dX9_counts_11 ?_
  refine g_iload_n dX9_counts_12 rfl ?_
  refine z_iadd dX9_counts_13 ?_
  refine g_dup2 dX9_counts_14 rfl rfl ?_
  refine z_iaload (j := 260 + 96 * i + s) dX9_counts_15 m_v (by omega) (by omega) (by omega) ?_
  refine g_aload_n dX9_counts_16 rfl ?_
  refine z_getf fl_X9_7 dX9_counts_17 m_d rfl ?_
  refine z_iconst dX9_counts_20 ?_
  refine z_iaload (j := 2) dX9_counts_21 m_v rfl (by omega) (by omega) ?_
  refine z_iadd dX9_counts_22 ?_
  refine z_iastore (j := 260 + 96 * i + s) dX9_counts_23 m_v (by omega) (by omega) (by omega) (fun M m_v o => ?_)
  have m_d := (o _ (by omega)).trans m_d
  have fr : (∀ x : Nat, ¬ (x = d + 1) → M x = M0 x) := fun x hx => (o x (by omega)).trans (fr x hx)
  rw [hgu] at m_v
  have e3 : gu 3 = g 3 := ho 3 (by omega)
  refine g_aload_n dX9_counts_24 rfl ?_
  refine g_iload_n dX9_counts_25 rfl ?_
  refine z_callVR dX9_counts_26 lm_X9_53 lk_X9_weightOf ((r_weightOf m_d m_v hi).eq (by rw [eg])) rfl rfl m_d rfl (mkRoom rfl rfl) (Nat.le_of_ble_eq_true rfl) (Nat.le_of_ble_eq_true rfl) (Nat.le_of_ble_eq_true rfl) ?_
  refine g_aload_n dX9_counts_29 rfl ?_
  refine z_getf fl_X9_7 dX9_counts_30 m_d rfl ?_
  refine z_iconst dX9_counts_33 ?_
  refine z_iaload (j := 3) dX9_counts_34 m_v rfl (by omega) (by omega) ?_
  refine z_icmp_le (tgt := 77) dX9_counts_35 (by decide) (by omega) (by omega) (fun c35 => ?_) (fun c35 => ?_)
  · exact g_return dX9_counts_77 rfl (Nat.le_of_ble_eq_true rfl) (Nat.le_of_ble_eq_true rfl) ⟨rfl, rfl, ⟨gu, m_v, fun x hx => by rw [eg]; unfold grw; rw [if_neg (by omega)], ho⟩, fr⟩
  · refine z_iconst dX9_counts_38 ?_
    refine g_istore_n dX9_counts_39 rfl (Nat.le_of_ble_eq_true rfl) ?_
    exact loop (by omega) 96 0 M _ (by omega) m_d m_v (fun x hx => by rw [if_neg (by omega), ← eg]) ho fr
