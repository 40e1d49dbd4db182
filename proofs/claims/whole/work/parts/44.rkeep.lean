/-! the reference: states, their history -/
def VR (g : Nat → Int) (cs : List Int) (A : List ac) (lng : Int) (rs : List Int) : Prop := (g 5 = (cs.length : Int) ∧ g 6 = lng ∧ g 7 = (A.length : Int) ∧ g 8 = (A.map (fun x => x.1)).sum ∧ g 9 = (rs.length : Int)) ∧ (cs.length ≤ 400 ∧ A.length ≤ 201 ∧ rs.length ≤ 200) ∧ (∀ k : Nat, k < cs.length → g (24260 + k) = cs.getD k 0) ∧ (∀ (k : Nat) (h : k < A.length), g (24660 + 4 * k) = A[k].1 ∧ g (24660 + 4 * k + 1) = A[k].2.1 ∧ g (24660 + 4 * k + 2) = A[k].2.2.1 ∧ g (24660 + 4 * k + 3) = A[k].2.2.2) ∧ ∀ k : Nat, k < rs.length → g (25480 + k) = rs.getD k 0 + 32
theorem VR.by_ {g g' : Nat → Int} {cs : List Int} {A : List ac} {lng : Int} {rs : List Int} (h : VR g cs A lng rs) (e : ∀ x, (4 < x ∧ x < 10) ∨ (24260 ≤ x ∧ x < 25700) → g' x = g x) : VR g' cs A lng rs := by
  obtain ⟨⟨a1, a2, a3, a4, a5⟩, ⟨b1, b2, b3⟩, c1, c2, c3⟩ := h
  refine ⟨⟨(e _ (by omega)).trans a1, (e _ (by omega)).trans a2, (e _ (by omega)).trans a3, (e _ (by omega)).trans a4, (e _ (by omega)).trans a5⟩, ⟨b1, b2, b3⟩, fun k hk => (e _ (by omega)).trans (c1 k hk), fun k hk => ?_, fun k hk => (e _ (by omega)).trans (c3 k hk)⟩
  obtain ⟨u1, u2, u3, u4⟩ := c2 k hk
  exact ⟨(e _ (by omega)).trans u1, (e _ (by omega)).trans u2, (e _ (by omega)).trans u3, (e _ (by omega)).trans u4⟩
theorem VM.by_ {g g' : Nat → Int} {t : tbl} (h : VM g t) (e : ∀ x, x = 4 ∨ (10 ≤ x ∧ x < 24260) → g' x = g x) : VM g' t := by
  obtain ⟨a1, a2, a3⟩ := h
  refine ⟨(e _ (by omega)).trans a1, a2, fun i hi => ?_⟩
  obtain ⟨b1, b2⟩ := a3 i hi
  refine ⟨by rw [e (10 + i) (by omega)]; exact b1, fun s hs => ?_⟩
  rw [← b2 s hs]
  exact e _ (by omega)
def VP (g : Nat → Int) (σ : sg) : Prop := (g 0 = sO σ ∧ g 1 = sX σ ∧ g 2 = sS σ ∧ g 3 = sL σ) ∧ VM g (sT σ) ∧ VR g (sC σ) (sA σ) (sG σ) (sR σ)
theorem VP.by_ {g g' : Nat → Int} {σ : sg} (h : VP g σ) (e : ∀ x, x < 25700 → g' x = g x) : VP g' σ := by
  obtain ⟨⟨a1, a2, a3, a4⟩, b, c⟩ := h
  exact ⟨⟨(e _ (by omega)).trans a1, (e _ (by omega)).trans a2, (e _ (by omega)).trans a3, (e _ (by omega)).trans a4⟩, b.by_ (fun x hx => e x (by omega)), c.by_ (fun x hx => e x (by omega))⟩
def HP (gp : Nat → Int) (hs : List sg) : Prop := hs.length ≤ 4 ∧ ∀ (i : Nat) (h : i < hs.length), VP (fun x => gp (25700 * i + x)) hs[i] ∧ okG hs[i]
theorem HP.by_ {g g' : Nat → Int} {hs : List sg} (h : HP g hs) (e : ∀ x, x < 25700 * hs.length → g' x = g x) : HP g' hs := by
  obtain ⟨a1, a2⟩ := h
  refine ⟨a1, fun i hi => ⟨(a2 i hi).1.by_ (fun x hx => e _ ?_), (a2 i hi).2⟩⟩
  omega
set_option maxHeartbeats 1000000 in
theorem r_copies {M0 : pM} {z q p : Nat} {gf gt : Nat → Int} (m_q : M0 q = some (arI 25700 gf)) (m_p : M0 p = some (arI 25700 gt)) (hqp : q ≠ p) : CW I_X9_copies yX9_copies [.ref q, .ref p] M0 z (fun M' r => r = none ∧ (∃ g', M' p = some (arI 25700 g') ∧ ∀ x, x < 25700 → g' x = gf x) ∧ ∀ x, x ≠ p → M' x = M0 x) := by
  have fr : ∀ x, x ≠ p → M0 x = M0 x := fun _ _ => rfl
  refine C.intro (pl := [some (.ref q), some (.ref p), none]) pn_X9 rfl (fun h => absurd h (by decide)) rfl (Nat.le_of_ble_eq_true rfl) rfl ?_
  have loop : ∀ (k j : Nat) (M : pM) (g1 : Nat → Int), j + k = 25700 → M q = some (arI 25700 gf) → M p = some (arI 25700 g1) → (∀ x, x < j → g1 x = gf x) → (∀ x, x ≠ p → M x = M0 x) → G I_X9_copies 0 0 (fun M' z' r' => z' = z ∧ r' = none ∧ (∃ g', M' p = some (arI 25700 g') ∧ ∀ x, x < 25700 → g' x = gf x) ∧ ∀ x, x ≠ p → M' x = M0 x) 0 0 2 [some (.ref q), some (.ref p), some (vI (j : Int))] [] M z := by
    intro k
    induction k with
    | zero =>
      intro j M g1 hj m_q m_p h1 fr
      have e : j = 25700 := by omega
      subst e
      refine g_iload_n dX9_copies_2 rfl ?_
      refine z_sipush dX9_copies_3 (by decide +kernel) ?_
      refine z_icmp_ge (tgt := 21) dX9_copies_6 (by decide) (by omega) (by omega) (fun c6 => ?_) (fun c6 => absurd c6 (by omega))
      exact g_return dX9_copies_21 rfl (Nat.le_of_ble_eq_true rfl) (Nat.le_of_ble_eq_true rfl) ⟨rfl, rfl, ⟨g1, m_p, h1⟩, fr⟩
    | succ k ih =>
      intro j M g1 hj m_q m_p h1 fr
      refine g_iload_n dX9_copies_2 rfl ?_
      refine z_sipush dX9_copies_3 (by decide +kernel) ?_
      refine z_icmp_ge (tgt := 21) dX9_copies_6 (by decide) (by omega) (by omega) (fun c6 => absurd c6 (by omega)) (fun c6 => ?_)
      refine g_aload_n dX9_copies_9 rfl ?_
      refine g_iload_n dX9_copies_10 rfl ?_
      refine g_aload_n dX9_copies_11 rfl ?_
      refine g_iload_n dX9_copies_12 rfl ?_
      refine z_iaload (j := j) dX9_copies_13 m_q rfl (by omega) (by omega) ?_
      refine z_iastore (j := j) dX9_copies_14 m_p (by omega) (by omega) (by omega) (fun M m_p o => ?_)
      have m_q := (o _ hqp).trans m_q
      have fr : ∀ x, x ≠ p → M x = M0 x := fun x hx => (o x hx).trans (fr x hx)
      refine z_iinc dX9_copies_15 rfl (Nat.le_of_ble_eq_true rfl) ?_
      refine g_goto (tgt := 2) dX9_copies_18 (by decide) ?_
      exact ih (j + 1) M _ (by omega) m_q m_p (fun x hx => by
        by_cases e : x = j
        · rw [e, upZ_s]
        · rw [upZ_n e]; exact h1 x (by omega)) fr
  refine z_iconst dX9_copies_0 ?_
  refine g_istore_n dX9_copies_1 rfl (Nat.le_of_ble_eq_true rfl) ?_
  exact loop 25700 0 M0 _ (by omega) m_q m_p (fun x hx => absurd hx (Nat.not_lt_zero _)) fr
set_option maxHeartbeats 1000000 in
theorem r_keeps {M0 : pM} {z d : Nat} {ty lo ra mm lg co ec cd wr tc mo tk fm : Int} {σ : sg} {hs : List sg} {gp : Nat → Int} {q : Nat} {gf : Nat → Int} (m_q : M0 q = some (arI 25700 gf)) (hq : q ≠ d ∧ q ≠ d + 3) (hf : VP gf σ) (m_d : M0 d = some (ro d (hs.length : Int) ty lo ra mm lg co ec cd wr tc mo tk fm)) (m_p : M0 (d + 3) = some (arI 102800 gp)) (hh : HP gp hs) (hG : okG σ) : CW I_X9_keeps yX9_keeps [.ref d, .ref q] M0 z (fun M' r => r = none ∧ M' d = some (ro d ((hpush hs σ).length : Int) ty lo ra mm lg co ec cd wr tc mo tk fm) ∧ (∃ gp', M' (d + 3) = some (arI 102800 gp') ∧ HP gp' (hpush hs σ)) ∧ (∀ x : Nat, ¬ (x = d ∨ x = d + 3) → M' x = M0 x)) := by
  have fr : (∀ x : Nat, ¬ (x = d ∨ x = d + 3) → M0 x = M0 x) := fun _ _ => rfl
  refine C.intro (pl := [some (.ref d), some (.ref q), none]) pn_X9 rfl (fun h => absurd h (by decide)) rfl (Nat.le_of_ble_eq_true rfl) rfl ?_
  have seg : ∀ (hs2 : List sg) (gp2 : Nat → Int), hs2.length ≤ 3 → HP gp2 hs2 → ∀ (k j : Nat) (M : pM) (g1 : Nat → Int), j + k = 25700 → M d = some (ro d (hs2.length : Int) ty lo ra mm lg co ec cd wr tc mo tk fm) → M q = some (arI 25700 gf) → M (d + 3) = some (arI 102800 g1) → (∀ x, x < 25700 * hs2.length → g1 x = gp2 x) → (∀ x, x < j → g1 (25700 * hs2.length + x) = gf x) → (∀ x : Nat, ¬ (x = d ∨ x = d + 3) → M x = M0 x) → G I_X9_keeps 0 0 (fun M' z' r' => z' = z ∧ r' = none ∧ M' d = some (ro d ((hs2 ++ [σ]).length : Int) ty lo ra mm lg co ec cd wr tc mo tk fm) ∧ (∃ gp', M' (d + 3) = some (arI 102800 gp') ∧ HP gp' (hs2 ++ [σ])) ∧ (∀ x : Nat, ¬ (x = d ∨ x = d + 3) → M' x = M0 x)) 0 0 50 [some (.ref d), some (.ref q), some (vI (j : Int))] [] M z := by
    intro hs2 gp2 hl2 hh2 k
    induction k with
    | zero =>
      intro j M g1 hj m_d m_q m_p h1 h2 fr
      have e : j = 25700 := by omega
      subst e
      have el : ((hs2 ++ [σ]).length : Int) = (hs2.length : Int) + 1 := by rw [List.length_append, List.length_singleton]; omega
      refine g_iload_n dX9_keeps_50 rfl ?_
      refine z_sipush dX9_keeps_51 (by decide +kernel) ?_
      refine z_icmp_ge (tgt := 81) dX9_keeps_54 (by decide) (by omega) (by omega) (fun c54 => ?_) (fun c54 => absurd c54 (by omega))
      refine g_aload_n dX9_keeps_81 rfl ?_
      refine g_dup dX9_keeps_82 rfl ?_
      refine z_getf fl_X9_36 dX9_keeps_83 m_d rfl ?_
      refine z_iconst dX9_keeps_86 ?_
      refine z_iadd dX9_keeps_87 ?_
      refine z_putf fl_X9_36 dX9_keeps_88 m_d rfl (Nat.le_of_ble_eq_true rfl) rfl rfl (fun M m_d o => ?_)
      have m_q := (o _ hq.1).trans m_q
      have m_p := (o _ (by omega)).trans m_p
      have fr : (∀ x : Nat, ¬ (x = d ∨ x = d + 3) → M x = M0 x) := fun x hx => (o x (by omega)).trans (fr x hx)
      refine g_return dX9_keeps_91 rfl (Nat.le_of_ble_eq_true rfl) (Nat.le_of_ble_eq_true rfl) ⟨rfl, rfl, by rw [el]; exact m_d, ⟨g1, m_p, by rw [List.length_append, List.length_singleton]; omega, fun i hi => ?_⟩, fr⟩
      rw [List.length_append, List.length_singleton] at hi
      by_cases e : i < hs2.length
      · rw [List.getElem_append_left e]
        exact ⟨((hh2.2 i e).1).by_ (fun x hx => h1 _ (by omega)), (hh2.2 i e).2⟩
      · have e2 : i = hs2.length := by omega
        subst e2
        rw [List.getElem_append_right (Nat.le_refl _)]
        simp only [Nat.sub_self, List.getElem_singleton]
        exact ⟨hf.by_ (fun x hx => h2 x hx), hG⟩
    | succ k ih =>
      intro j M g1 hj m_d m_q m_p h1 h2 fr
      refine g_iload_n dX9_keeps_50 rfl ?_
      refine z_sipush dX9_keeps_51 (by decide +kernel) ?_
      refine z_icmp_ge (tgt := 81) dX9_keeps_54 (by decide) (by omega) (by omega) (fun c54 => absurd c54 (by omega)) (fun c54 => ?_)
      refine g_aload_n dX9_keeps_57 rfl ?_
      refine z_getf fl_X9_17 dX9_keeps_58 m_d rfl ?_
      refine z_sipush dX9_keeps_61 (by decide +kernel) ?_
      refine g_aload_n dX9_keeps_64 rfl ?_
      refine z_getf fl_X9_36 dX9_keeps_65 m_d rfl ?_
      refine z_imul dX9_keeps_68 ?_
      refine g_iload_n dX9_keeps_69 rfl ?_
      refine z_iadd dX9_keeps_70 ?_
      refine g_aload_n dX9_keeps_71 rfl ?_
      refine g_iload_n dX9_keeps_72 rfl ?_
      refine z_iaload (j := j) dX9_keeps_73 m_q rfl (by omega) (by omega) ?_
      refine z_iastore (j := 25700 * hs2.length + j) dX9_keeps_74 m_p (by omega) (by omega) (by omega) (fun M m_p o => ?_)
      have m_d := (o _ (by omega)).trans m_d
      have m_q := (o _ hq.2).trans m_q
      have fr : (∀ x : Nat, ¬ (x = d ∨ x = d + 3) → M x = M0 x) := fun x hx => (o x (by omega)).trans (fr x hx)
      refine z_iinc dX9_keeps_75 rfl (Nat.le_of_ble_eq_true rfl) ?_
      refine g_goto (tgt := 50) dX9_keeps_78 (by decide) ?_
      refine ih (j + 1) M _ (by omega) m_d m_q m_p (fun x hx => by rw [upZ_n (by omega)]; exact h1 x hx) (fun x hx => ?_) fr
      by_cases e : x = j
      · rw [e, upZ_s]
      · rw [upZ_n (by omega)]; exact h2 x (by omega)
  have hl4 := hh.1
  by_cases h4 : hs.length = 4
  · have e4 : hpush hs σ = hs.tail ++ [σ] := by unfold hpush; rw [if_pos h4]
    rw [e4]
    have htl : hs.tail.length = 3 := by rw [List.length_tail]; omega
    have lp : ∀ (k j : Nat) (M : pM) (g1 : Nat → Int), j + k = 77100 → M d = some (ro d (hs.length : Int) ty lo ra mm lg co ec cd wr tc mo tk fm) → M q = some (arI 25700 gf) → M (d + 3) = some (arI 102800 g1) → (∀ x, x < j → g1 x = gp (25700 + x)) → (∀ x, j ≤ x → g1 x = gp x) → (∀ x : Nat, ¬ (x = d ∨ x = d + 3) → M x = M0 x) → G I_X9_keeps 0 0 (fun M' z' r' => z' = z ∧ r' = none ∧ M' d = some (ro d ((hs.tail ++ [σ]).length : Int) ty lo ra mm lg co ec cd wr tc mo tk fm) ∧ (∃ gp', M' (d + 3) = some (arI 102800 gp') ∧ HP gp' (hs.tail ++ [σ])) ∧ (∀ x : Nat, ¬ (x = d ∨ x = d + 3) → M' x = M0 x)) 0 0 10 [some (.ref d), some (.ref q), some (vI (j : Int))] [] M z := by
      intro k
      induction k with
      | zero =>
        intro j M g1 hj m_d m_q m_p h1 h2 fr
        have e : j = 77100 := by omega
        subst e
        have hpt : HP g1 hs.tail := ⟨by omega, fun i hi => by
          have hi2 : i + 1 < hs.length := by omega
          have eg : hs.tail[i] = hs[i + 1] := by rw [List.getElem_tail]
          rw [eg]
          refine ⟨(hh.2 (i + 1) hi2).1.by_ (fun x hx => ?_), (hh.2 (i + 1) hi2).2⟩
          rw [h1 _ (by omega)]
          rw [show 25700 + (25700 * i + x) = 25700 * (i + 1) + x by omega]⟩
        have e3 : (hs.length : Int) - 1 = (hs.tail.length : Int) := by omega
        refine g_iload_n dX9_keeps_10 rfl ?_
        refine z_ldc (77100) dX9_keeps_11 kc_X9_40 rfl ?_
        refine z_icmp_ge (tgt := 38) dX9_keeps_13 (by decide) (by omega) (by omega) (fun c13 => ?_) (fun c13 => absurd c13 (by omega))
        refine g_aload_n dX9_keeps_38 rfl ?_
        refine g_dup dX9_keeps_39 rfl ?_
        refine z_getf fl_X9_36 dX9_keeps_40 m_d rfl ?_
        refine z_iconst dX9_keeps_43 ?_
        refine z_isub dX9_keeps_44 ?_
        refine z_putf fl_X9_36 dX9_keeps_45 m_d rfl (Nat.le_of_ble_eq_true rfl) rfl rfl (fun M m_d o => ?_)
        have m_q := (o _ hq.1).trans m_q
        have m_p := (o _ (by omega)).trans m_p
        have fr : (∀ x : Nat, ¬ (x = d ∨ x = d + 3) → M x = M0 x) := fun x hx => (o x (by omega)).trans (fr x hx)
        refine z_iconst dX9_keeps_48 ?_
        refine g_istore_n dX9_keeps_49 rfl (Nat.le_of_ble_eq_true rfl) ?_
        rw [e3] at m_d
        exact seg hs.tail g1 (by omega) hpt 25700 0 M g1 (by omega) m_d m_q m_p (fun x hx => rfl) (fun x hx => absurd hx (Nat.not_lt_zero _)) fr
      | succ k ih =>
        intro j M g1 hj m_d m_q m_p h1 h2 fr
        refine g_iload_n dX9_keeps_10 rfl ?_
        refine z_ldc (77100) dX9_keeps_11 kc_X9_40 rfl ?_
        refine z_icmp_ge (tgt := 38) dX9_keeps_13 (by decide) (by omega) (by omega) (fun c13 => absurd c13 (by omega)) (fun c13 => ?_)
        refine g_aload_n dX9_keeps_16 rfl ?_
        refine z_getf fl_X9_17 dX9_keeps_17 m_d rfl ?_
        refine g_iload_n dX9_keeps_20 rfl ?_
        refine g_aload_n dX9_keeps_21 rfl ?_
        refine z_getf fl_X9_17 dX9_keeps_22 m_d rfl ?_
        refine g_iload_n dX9_keeps_25 rfl ?_
        refine z_sipush dX9_keeps_26 (by decide +kernel) ?_
        refine z_iadd dX9_keeps_29 ?_
        refine z_iaload (j := j + 25700) dX9_keeps_30 m_p (by omega) (by omega) (by omega) ?_
        refine z_iastore (j := j) dX9_keeps_31 m_p (by omega) (by omega) (by omega) (fun M m_p o => ?_)
        have m_d := (o _ (by omega)).trans m_d
        have m_q := (o _ hq.2).trans m_q
        have fr : (∀ x : Nat, ¬ (x = d ∨ x = d + 3) → M x = M0 x) := fun x hx => (o x (by omega)).trans (fr x hx)
        refine z_iinc dX9_keeps_32 rfl (Nat.le_of_ble_eq_true rfl) ?_
        refine g_goto (tgt := 10) dX9_keeps_35 (by decide) ?_
        refine ih (j + 1) M _ (by omega) m_d m_q m_p (fun x hx => ?_) (fun x hx => by rw [upZ_n (by omega)]; exact h2 x (by omega)) fr
        by_cases e : x = j
        · rw [e, upZ_s, h2 _ (by omega), show j + 25700 = 25700 + j by omega]
        · rw [upZ_n e]; exact h1 x (by omega)
    refine g_aload_n dX9_keeps_0 rfl ?_
    refine z_getf fl_X9_36 dX9_keeps_1 m_d rfl ?_
    refine z_iconst dX9_keeps_4 ?_
    refine z_icmp_ne (tgt := 48) dX9_keeps_5 (by decide) (by omega) (by omega) (fun c5 => absurd c5 (by omega)) (fun c5 => ?_)
    refine z_iconst dX9_keeps_8 ?_
    refine g_istore_n dX9_keeps_9 rfl (Nat.le_of_ble_eq_true rfl) ?_
    exact lp 77100 0 M0 _ (by omega) m_d m_q m_p (fun x hx => absurd hx (Nat.not_lt_zero _)) (fun x hx => rfl) fr
  · have e4 : hpush hs σ = hs ++ [σ] := by unfold hpush; rw [if_neg h4]
    rw [e4]
    refine g_aload_n dX9_keeps_0 rfl ?_
    refine z_getf fl_X9_36 dX9_keeps_1 m_d rfl ?_
    refine z_iconst dX9_keeps_4 ?_
    refine z_icmp_ne (tgt := 48) dX9_keeps_5 (by decide) (by omega) (by omega) (fun c5 => ?_) (fun c5 => absurd c5 (by omega))
    refine z_iconst dX9_keeps_48 ?_
    refine g_istore_n dX9_keeps_49 rfl (Nat.le_of_ble_eq_true rfl) ?_
    exact seg hs gp (by omega) hh 25700 0 M0 gp (by omega) m_d m_q m_p (fun x hx => rfl) (fun x hx => absurd hx (Nat.not_lt_zero _)) fr
set_option maxHeartbeats 1000000 in
theorem r_empties {M0 : pM} {z d : Nat} {pm ty lo ra mm lg co ec cd wr tc mo tk fm : Int} (m_d : M0 d = some (ro d pm ty lo ra mm lg co ec cd wr tc mo tk fm)) {g : Nat → Int} (m_v : M0 (d + 1) = some (arI 25700 g))  : CW I_X9_empties yX9_empties [.ref d] M0 z (fun M' r => r = none ∧ (∃ g', M' (d + 1) = some (arI 25700 g') ∧ VM g' [] ∧ VO g g') ∧ (∀ x : Nat, ¬ (x = d + 1) → M' x = M0 x)) := by
  have fr : (∀ x : Nat, ¬ (x = d + 1) → M0 x = M0 x) := fun _ _ => rfl
  refine C.intro (pl := [some (.ref d), none]) pn_X9 rfl (fun h => absurd h (by decide)) rfl (Nat.le_of_ble_eq_true rfl) rfl ?_
  have loop : ∀ (k j : Nat) (M : pM) (g1 : Nat → Int), j + k = 24260 → 10 ≤ j → M d = some (ro d pm ty lo ra mm lg co ec cd wr tc mo tk fm) → M (d + 1) = some (arI 25700 g1) → g1 4 = 0 → VO g g1 → (∀ x : Nat, ¬ (x = d + 1) → M x = M0 x) → G I_X9_empties 0 0 (fun M' z' r' => z' = z ∧ r' = none ∧ (∃ g', M' (d + 1) = some (arI 25700 g') ∧ VM g' [] ∧ VO g g') ∧ (∀ x : Nat, ¬ (x = d + 1) → M' x = M0 x)) 0 0 10 [some (.ref d), some (vI (j : Int))] [] M z := by
    intro k
    induction k with
    | zero =>
      intro j M g1 hj hj2 m_d m_v h1 h2 fr
      have e : j = 24260 := by omega
      subst e
      refine g_iload_n dX9_empties_10 rfl ?_
      refine z_sipush dX9_empties_11 (by decide +kernel) ?_
      refine z_icmp_ge (tgt := 30) dX9_empties_14 (by decide) (by omega) (by omega) (fun c14 => ?_) (fun c14 => absurd c14 (by omega))
      exact g_return dX9_empties_30 rfl (Nat.le_of_ble_eq_true rfl) (Nat.le_of_ble_eq_true rfl) ⟨rfl, rfl, ⟨g1, m_v, ⟨h1, Nat.zero_le _, fun i hi => absurd hi (Nat.not_lt_zero _)⟩, h2⟩, fr⟩
    | succ k ih =>
      intro j M g1 hj hj2 m_d m_v h1 h2 fr
      refine g_iload_n dX9_empties_10 rfl ?_
      refine z_sipush dX9_empties_11 (by decide +kernel) ?_
      refine z_icmp_ge (tgt := 30) dX9_empties_14 (by decide) (by omega) (by omega) (fun c14 => absurd c14 (by omega)) (fun c14 => ?_)
      refine g_aload_n dX9_empties_17 rfl ?_
      refine z_getf fl_X9_7 dX9_empties_18 m_d rfl ?_
      refine g_iload_n dX9_empties_21 rfl ?_
      refine z_iconst dX9_empties_22 ?_
      refine z_iastore (j := j) dX9_empties_23 m_v (by omega) (by omega) (by omega) (fun M m_v o => ?_)
      have m_d := (o _ (by omega)).trans m_d
      have fr : (∀ x : Nat, ¬ (x = d + 1) → M x = M0 x) := fun x hx => (o x (by omega)).trans (fr x hx)
      refine z_iinc dX9_empties_24 rfl (Nat.le_of_ble_eq_true rfl) ?_
      refine g_goto (tgt := 10) dX9_empties_27 (by decide) ?_
      exact ih (j + 1) M _ (by omega) (by omega) m_d m_v (by rw [upZ_n (by omega)]; exact h1) (fun x hx => by rw [upZ_n (by omega)]; exact h2 x hx) fr
  refine g_aload_n dX9_empties_0 rfl ?_
  refine z_getf fl_X9_7 dX9_empties_1 m_d rfl ?_
  refine z_iconst dX9_empties_4 ?_
  refine z_iconst dX9_empties_5 ?_
  refine z_iastore (j := 4) dX9_empties_6 m_v rfl (by omega) (by omega) (fun M m_v o => ?_)
  have m_d := (o _ (by omega)).trans m_d
  have fr : (∀ x : Nat, ¬ (x = d + 1) → M x = M0 x) := fun x hx => (o x (by omega)).trans (fr x hx)
  refine z_bipush dX9_empties_7 (by decide +kernel) ?_
  refine g_istore_n dX9_empties_9 rfl (Nat.le_of_ble_eq_true rfl) ?_
  exact loop 24250 10 M _ (by omega) (by omega) m_d m_v upZ_s (fun x hx => upZ_n (by omega)) fr
set_option maxHeartbeats 1000000 in
theorem r_sets {M0 : pM} {z d : Nat} {ty lo ra mm lg co ec cd wr tc mo tk fm : Int} {g : Nat → Int} {σ : sg} {hs : List sg} {gp : Nat → Int} {a : Nat} {v : Int} (m_v : M0 (d + 1) = some (arI 25700 g)) (hf : VP g σ) (m_d : M0 d = some (ro d (hs.length : Int) ty lo ra mm lg co ec cd wr tc mo tk fm)) (m_p : M0 (d + 3) = some (arI 102800 gp)) (hh : HP gp hs) (hG : okG σ) (ha : a < 4) : CW I_X9_sets yX9_sets [.ref d, vI (a : Int), vI v] M0 z (fun M' r => r = some (vI (g a)) ∧ M' (d + 1) = some (arI 25700 (upZ g a v)) ∧ M' d = some (ro d ((hpush hs σ).length : Int) ty lo ra mm lg co ec cd wr tc mo tk fm) ∧ (∃ gp', M' (d + 3) = some (arI 102800 gp') ∧ HP gp' (hpush hs σ)) ∧ (∀ x : Nat, ¬ (x = d ∨ x = d + 1 ∨ x = d + 3) → M' x = M0 x)) := by
  have fr : (∀ x : Nat, ¬ (x = d ∨ x = d + 1 ∨ x = d + 3) → M0 x = M0 x) := fun _ _ => rfl
  refine C.intro (pl := [some (.ref d), some (vI (a : Int)), some (vI v), none]) pn_X9 rfl (fun h => absurd h (by decide)) rfl (Nat.le_of_ble_eq_true rfl) rfl ?_
  refine g_aload_n dX9_sets_0 rfl ?_
  refine g_aload_n dX9_sets_1 rfl ?_
  refine z_getf fl_X9_7 dX9_sets_2 m_d rfl ?_
  refine z_callVV dX9_sets_5 lm_X9_41 lk_X9_keeps (r_keeps m_v (by omega) hf m_d m_p hh hG) rfl rfl m_d rfl (mkRoom rfl rfl) (Nat.le_of_ble_eq_true rfl) (Nat.le_of_ble_eq_true rfl) (Nat.le_of_ble_eq_true rfl) (fun M r hp => ?_)
  obtain ⟨rfl, m_d, ⟨gp2, m_p, hh2⟩, o1⟩ := hp
  have m_v := (o1 _ (by omega)).trans m_v
  have fr : (∀ x : Nat, ¬ (x = d ∨ x = d + 1 ∨ x = d + 3) → M x = M0 x) := fun x hx => (o1 x (by omega)).trans (fr x hx)
  refine g_aload_n dX9_sets_8 rfl ?_
  refine z_getf fl_X9_7 dX9_sets_9 m_d rfl ?_
  refine g_iload_n dX9_sets_12 rfl ?_
  refine z_iaload (j := a) dX9_sets_13 m_v rfl (by omega) (by omega) ?_
  refine g_istore_n dX9_sets_14 rfl (Nat.le_of_ble_eq_true rfl) ?_
  refine g_aload_n dX9_sets_15 rfl ?_
  refine z_getf fl_X9_7 dX9_sets_16 m_d rfl ?_
  refine g_iload_n dX9_sets_19 rfl ?_
  refine g_iload_n dX9_sets_20 rfl ?_
  refine z_iastore (j := a) dX9_sets_21 m_v (by omega) (by omega) (by omega) (fun M m_v o => ?_)
  have m_d := (o _ (by omega)).trans m_d
  have m_p := (o _ (by omega)).trans m_p
  have fr : (∀ x : Nat, ¬ (x = d ∨ x = d + 1 ∨ x = d + 3) → M x = M0 x) := fun x hx => (o x (by omega)).trans (fr x hx)
  refine g_iload_n dX9_sets_22 rfl ?_
  exact g_ireturn dX9_sets_23 rfl (Nat.le_of_ble_eq_true rfl) (Nat.le_of_ble_eq_true rfl) ⟨rfl, rfl, m_v, m_d, ⟨gp2, m_p, hh2⟩, fr⟩
set_option maxHeartbeats 1000000 in
theorem r_starts {M0 : pM} {z d : Nat} {pm ty lo ra mm lg co ec cd wr tc mo tk fm : Int} (m_d : M0 d = some (ro d pm ty lo ra mm lg co ec cd wr tc mo tk fm))  : CW I_X9_starts yX9_starts [.ref d] M0 z (fun M' r => r = none ∧ M' d = some (ro d pm ty 0 4294967296 0 0 co ec cd wr tc mo tk fm) ∧ (∀ x : Nat, ¬ (x = d) → M' x = M0 x)) := by
  have fr : (∀ x : Nat, ¬ (x = d) → M0 x = M0 x) := fun _ _ => rfl
  refine C.intro (pl := [some (.ref d)]) pn_X9 rfl (fun h => absurd h (by decide)) rfl (Nat.le_of_ble_eq_true rfl) rfl ?_
  refine g_aload_n dX9_starts_0 rfl ?_
  refine z_lconst (a := 0) dX9_starts_1 rfl ?_
  refine z_putf fl_X9_64 dX9_starts_2 m_d rfl (Nat.le_of_ble_eq_true rfl) rfl rfl (fun M m_d o => ?_)
  have fr : (∀ x : Nat, ¬ (x = d) → M x = M0 x) := fun x hx => (o x (by omega)).trans (fr x hx)
  refine g_aload_n dX9_starts_5 rfl ?_
  refine z_ldc2 (4294967296) dX9_starts_6 kc_X9_68 rfl ?_
  refine z_putf fl_X9_70 dX9_starts_9 m_d rfl (Nat.le_of_ble_eq_true rfl) rfl rfl (fun M m_d o => ?_)
  have fr : (∀ x : Nat, ¬ (x = d) → M x = M0 x) := fun x hx => (o x (by omega)).trans (fr x hx)
  refine g_aload_n dX9_starts_12 rfl ?_
  refine z_iconst dX9_starts_13 ?_
  refine z_putf fl_X9_73 dX9_starts_14 m_d rfl (Nat.le_of_ble_eq_true rfl) rfl rfl (fun M m_d o => ?_)
  have fr : (∀ x : Nat, ¬ (x = d) → M x = M0 x) := fun x hx => (o x (by omega)).trans (fr x hx)
  refine g_aload_n dX9_starts_17 rfl ?_
  refine z_iconst dX9_starts_18 ?_
  refine z_putf fl_X9_76 dX9_starts_19 m_d rfl (Nat.le_of_ble_eq_true rfl) rfl rfl (fun M m_d o => ?_)
  have fr : (∀ x : Nat, ¬ (x = d) → M x = M0 x) := fun x hx => (o x (by omega)).trans (fr x hx)
  exact g_return dX9_starts_22 rfl (Nat.le_of_ble_eq_true rfl) (Nat.le_of_ble_eq_true rfl) ⟨rfl, rfl, m_d, fr⟩
set_option maxHeartbeats 1000000 in
theorem r_symbolAt {M0 : pM} {z q N d k : Nat} {xs : List Int} (h : Tx M0 q N xs) (hx : okX xs) (hk : k ≤ xs.length) : CR I_X9_symbolAt yX9_symbolAt [.ref d, .ref q, vI (xs.length : Int), vI (k : Int)] M0 z (some (vI (sy xs k : Int))) := by
  obtain ⟨g, m_a, hlen, hN, hg⟩ := id h
  refine C.intro (pl := [some (.ref d), some (.ref q), some (vI (xs.length : Int)), some (vI (k : Int))]) pn_X9 rfl (fun h => absurd h (by decide)) rfl (Nat.le_of_ble_eq_true rfl) rfl ?_
  by_cases e : k < xs.length
  · have hs := sy_in hx e
    have hgk := hg k e
    have e2 : g k - 32 = (sy xs k : Int) := by omega
    refine g_iload_n dX9_symbolAt_0 rfl ?_
    refine g_iload_n dX9_symbolAt_1 rfl ?_
    refine z_icmp_ge (tgt := 14) dX9_symbolAt_2 (by decide) (by omega) (by omega) (fun c2 => absurd c2 (by omega)) (fun c2 => ?_)
    refine g_aload_n dX9_symbolAt_5 rfl ?_
    refine g_iload_n dX9_symbolAt_6 rfl ?_
    refine z_iaload (j := k) dX9_symbolAt_7 m_a rfl (by omega) (by omega) ?_
    refine z_bipush dX9_symbolAt_8 (by decide +kernel) ?_
    refine z_isub dX9_symbolAt_10 ?_
    refine g_goto (tgt := 16) dX9_symbolAt_11 (by decide) ?_
    exact g_ireturn dX9_symbolAt_16 rfl (Nat.le_of_ble_eq_true rfl) (Nat.le_of_ble_eq_true rfl) ⟨rfl, rfl, by rw [← e2]⟩
  · have hs : sy xs k = 95 := by unfold sy; rw [if_neg e]
    rw [hs]
    refine g_iload_n dX9_symbolAt_0 rfl ?_
    refine g_iload_n dX9_symbolAt_1 rfl ?_
    refine z_icmp_ge (tgt := 14) dX9_symbolAt_2 (by decide) (by omega) (by omega) (fun c2 => ?_) (fun c2 => absurd c2 (by omega))
    refine z_bipush dX9_symbolAt_14 (by decide +kernel) ?_
    exact g_ireturn dX9_symbolAt_16 rfl (Nat.le_of_ble_eq_true rfl) (Nat.le_of_ble_eq_true rfl) ⟨rfl, rfl, rfl⟩
