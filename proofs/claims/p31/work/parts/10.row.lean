/-! the class Row: N places, of which the first hold a list -/
theorem mkRoom {I J : MI} (h1 : Nat.ble (J.2.2.2.2.1 + 1) I.2.2.2.2.1 = true) (h2 : Nat.ble (8 + (J.2.1 + 11) + J.2.2.2.2.2.1) I.2.2.2.2.2.1 = true) : pRoom I J := ⟨Nat.le_of_ble_eq_true h1, Nat.le_of_ble_eq_true h2⟩
theorem pn_X0 : plainName RX0 = true := by decide +kernel
theorem pn_X1 : plainName RX1 = true := by decide +kernel
theorem pn_X2 : plainName RX2 = true := by decide +kernel
theorem pn_X3 : plainName RX3 = true := by decide +kernel
theorem pn_X4 : plainName RX4 = true := by decide +kernel
theorem pn_X5 : plainName RX5 = true := by decide +kernel
theorem pn_X6 : plainName RX6 = true := by decide +kernel
theorem pn_X7 : plainName RX7 = true := by decide +kernel
theorem pn_X8 : plainName RX8 = true := by decide +kernel
theorem pn_L : plainName RL = true := by decide +kernel
def Rw (M : pM) (q N : Nat) (xs : List Int) : Prop := ∃ g : Nat → Int, M q = some (ob 6 [.ref (q + 1), vI xs.length]) ∧ M (q + 1) = some (arI N g) ∧ xs.length ≤ N ∧ N < 2147483648 ∧ ∀ (i : Nat) (h : i < xs.length), g i = xs[i]
theorem Rw.obj {M : pM} {q N : Nat} {xs : List Int} (h : Rw M q N xs) : M q = some (ob 6 [.ref (q + 1), vI xs.length]) := by obtain ⟨g, h1, -⟩ := h; exact h1
theorem Rw.len {M : pM} {q N : Nat} {xs : List Int} (h : Rw M q N xs) : xs.length ≤ N ∧ N < 2147483648 := by obtain ⟨g, h1, h2, h3, h4, h5⟩ := h; exact ⟨h3, h4⟩
theorem Rw.off {M M' : pM} {q N lo hi : Nat} {xs : List Int} (h : Rw M q N xs) (ho : Off M M' lo hi) (hd : q + 2 ≤ lo ∨ hi ≤ q) : Rw M' q N xs := by
  obtain ⟨g, h1, h2, h3⟩ := h
  exact ⟨g, (ho q (by omega)).trans h1, (ho (q + 1) (by omega)).trans h2, h3⟩
set_option maxHeartbeats 1000000 in
theorem Row_has {M : pM} {z q N : Nat} {xs : List Int} {k : Int} (h : Rw M q N xs) (hk : -2147483648 ≤ k ∧ k < 2147483648) : CR I_X6_has yX6_has [.ref q, vI k] M z (some (vI (if 0 ≤ k ∧ k < (xs.length : Int) then 1 else 0))) := by
  obtain ⟨g, m_q, m_a, hlen, hN, hg⟩ := id h
  refine C.intro (pl := [some (.ref q), some (vI k)]) pn_X6 rfl (fun h => absurd h (by decide)) rfl (Nat.le_of_ble_eq_true rfl) rfl ?_
  refine g_iload_n dX6_has_0 rfl ?_
  refine z_if_lt (tgt := 25) dX6_has_1 (by decide) (by omega) (fun c1 => ?_) (fun c1 => ?_)
  · refine z_iconst dX6_has_25 ?_
    exact g_zreturn dX6_has_26 rfl (by first | rfl | decide) (Nat.le_of_ble_eq_true rfl) (Nat.le_of_ble_eq_true rfl) ⟨rfl, rfl, by first | (exfalso; omega) | (rw [if_pos (by omega)]) | (rw [if_neg (by omega)])⟩
  · refine g_iload_n dX6_has_4 rfl ?_
    refine g_aload_n dX6_has_5 rfl ?_
    refine z_getf fl_X6_19 dX6_has_6 m_q rfl ?_
    refine z_icmp_ge (tgt := 25) dX6_has_9 (by decide) (by omega) (by omega) (fun c9 => ?_) (fun c9 => ?_)
    · refine z_iconst dX6_has_25 ?_
      exact g_zreturn dX6_has_26 rfl (by first | rfl | decide) (Nat.le_of_ble_eq_true rfl) (Nat.le_of_ble_eq_true rfl) ⟨rfl, rfl, by first | (exfalso; omega) | (rw [if_pos (by omega)]) | (rw [if_neg (by omega)])⟩
    · refine g_iload_n dX6_has_12 rfl ?_
      refine g_aload_n dX6_has_13 rfl ?_
      refine z_getf fl_X6_13 dX6_has_14 m_q rfl ?_
      refine z_alenI dX6_has_17 m_a ?_
      refine z_icmp_ge (tgt := 25) dX6_has_18 (by decide) (by omega) (by omega) (fun c18 => ?_) (fun c18 => ?_)
      · refine z_iconst dX6_has_25 ?_
        exact g_zreturn dX6_has_26 rfl (by first | rfl | decide) (Nat.le_of_ble_eq_true rfl) (Nat.le_of_ble_eq_true rfl) ⟨rfl, rfl, by first | (exfalso; omega) | (rw [if_pos (by omega)]) | (rw [if_neg (by omega)])⟩
      · refine z_iconst dX6_has_21 ?_
        refine g_goto (tgt := 26) dX6_has_22 (by decide) ?_
        exact g_zreturn dX6_has_26 rfl (by first | rfl | decide) (Nat.le_of_ble_eq_true rfl) (Nat.le_of_ble_eq_true rfl) ⟨rfl, rfl, by first | (exfalso; omega) | (rw [if_pos (by omega)]) | (rw [if_neg (by omega)])⟩
theorem Row_has_t {M : pM} {z q N : Nat} {xs : List Int} {k : Int} (h : Rw M q N xs) (hk : 0 ≤ k ∧ k < (xs.length : Int)) : CR I_X6_has yX6_has [.ref q, vI k] M z (some (vI 1)) := by
  have h2 := h.len
  have := Row_has (z := z) h (k := k) (by omega)
  rwa [if_pos hk] at this
theorem Row_has_f {M : pM} {z q N : Nat} {xs : List Int} {k : Int} (h : Rw M q N xs) (hr : -2147483648 ≤ k ∧ k < 2147483648) (hk : ¬ (0 ≤ k ∧ k < (xs.length : Int))) : CR I_X6_has yX6_has [.ref q, vI k] M z (some (vI 0)) := by
  have := Row_has (z := z) h (k := k) hr
  rwa [if_neg hk] at this
set_option maxHeartbeats 1000000 in
theorem Row_item {M : pM} {z q N j : Nat} {xs : List Int} (h : Rw M q N xs) (hj : j < 2147483648) : CR I_X6_item yX6_item [.ref q, vI (j : Int)] M z (some (vI (xs.getD j 0))) := by
  obtain ⟨g, m_q, m_a, hlen, hN, hg⟩ := id h
  refine C.intro (pl := [some (.ref q), some (vI (j : Int))]) pn_X6 rfl (fun h => absurd h (by decide)) rfl (Nat.le_of_ble_eq_true rfl) rfl ?_
  by_cases hc : j < xs.length
  · refine g_aload_n dX6_item_0 rfl ?_
    refine g_iload_n dX6_item_1 rfl ?_
    refine z_callVR dX6_item_2 lm_X6_23 lk_X6_has (Row_has_t h (by omega)) rfl rfl m_q rfl (mkRoom rfl rfl) (Nat.le_of_ble_eq_true rfl) (Nat.le_of_ble_eq_true rfl) (Nat.le_of_ble_eq_true rfl) ?_
    refine z_if_eq (tgt := 17) dX6_item_5 (by decide) (by omega) (fun c5 => absurd c5 (by omega)) (fun c5 => ?_)
    refine g_aload_n dX6_item_8 rfl ?_
    refine z_getf fl_X6_13 dX6_item_9 m_q rfl ?_
    refine g_iload_n dX6_item_12 rfl ?_
    refine z_iaload (j := j) dX6_item_13 m_a (by omega) (by omega) (by omega) ?_
    refine g_goto (tgt := 18) dX6_item_14 (by decide) ?_
    exact g_ireturn dX6_item_18 rfl (Nat.le_of_ble_eq_true rfl) (Nat.le_of_ble_eq_true rfl) ⟨rfl, rfl, by rw [hg j hc, List.getD_eq_getElem?_getD, List.getElem?_eq_getElem hc]; rfl⟩
  · refine g_aload_n dX6_item_0 rfl ?_
    refine g_iload_n dX6_item_1 rfl ?_
    refine z_callVR dX6_item_2 lm_X6_23 lk_X6_has (Row_has_f h (by omega) (by omega)) rfl rfl m_q rfl (mkRoom rfl rfl) (Nat.le_of_ble_eq_true rfl) (Nat.le_of_ble_eq_true rfl) (Nat.le_of_ble_eq_true rfl) ?_
    refine z_if_eq (tgt := 17) dX6_item_5 (by decide) (by omega) (fun c5 => ?_) (fun c5 => absurd c5 (by omega))
    refine z_iconst dX6_item_17 ?_
    exact g_ireturn dX6_item_18 rfl (Nat.le_of_ble_eq_true rfl) (Nat.le_of_ble_eq_true rfl) ⟨rfl, rfl, by rw [List.getD_eq_getElem?_getD, List.getElem?_eq_none (by omega)]; rfl⟩
set_option maxHeartbeats 1000000 in
theorem Row_put {M : pM} {z q N j : Nat} {xs : List Int} {v : Int} (h : Rw M q N xs) (hj : j < 2147483648) : CW I_X6_put yX6_put [.ref q, vI (j : Int), vI v] M z (fun M' r => r = none ∧ Rw M' q N (xs.set j v) ∧ Off M M' q (q + 2)) := by
  obtain ⟨g, m_q, m_a, hlen, hN, hg⟩ := id h
  have fr : Off M M q (q + 2) := Off.rf
  refine C.intro (pl := [some (.ref q), some (vI (j : Int)), some (vI v)]) pn_X6 rfl (fun h => absurd h (by decide)) rfl (Nat.le_of_ble_eq_true rfl) rfl ?_
  by_cases hc : j < xs.length
  · refine g_aload_n dX6_put_0 rfl ?_
    refine g_iload_n dX6_put_1 rfl ?_
    refine z_callVR dX6_put_2 lm_X6_23 lk_X6_has (Row_has_t h (by omega)) rfl rfl m_q rfl (mkRoom rfl rfl) (Nat.le_of_ble_eq_true rfl) (Nat.le_of_ble_eq_true rfl) (Nat.le_of_ble_eq_true rfl) ?_
    refine z_if_eq (tgt := 15) dX6_put_5 (by decide) (by omega) (fun c5 => absurd c5 (by omega)) (fun c5 => ?_)
    refine g_aload_n dX6_put_8 rfl ?_
    refine z_getf fl_X6_13 dX6_put_9 m_q rfl ?_
    refine g_iload_n dX6_put_12 rfl ?_
    refine g_iload_n dX6_put_13 rfl ?_
    refine z_iastore (j := j) dX6_put_14 m_a (by omega) (by omega) (by omega) (fun M m_a o => ?_)
    have m_q := (o _ (by omega)).trans m_q
    have fr := fr.one o (by omega)
    refine g_return dX6_put_15 rfl (Nat.le_of_ble_eq_true rfl) (Nat.le_of_ble_eq_true rfl) ⟨rfl, rfl, ⟨upZ g j v, by rw [List.length_set]; exact m_q, m_a, by rw [List.length_set]; exact hlen, hN, fun i hi => ?_⟩, fr⟩
    rw [List.getElem_set]
    rw [List.length_set] at hi
    by_cases hij : j = i
    · subst hij; rw [if_pos rfl, upZ_s]
    · rw [if_neg hij, upZ_n (Ne.symm hij)]; exact hg i hi
  · refine g_aload_n dX6_put_0 rfl ?_
    refine g_iload_n dX6_put_1 rfl ?_
    refine z_callVR dX6_put_2 lm_X6_23 lk_X6_has (Row_has_f h (by omega) (by omega)) rfl rfl m_q rfl (mkRoom rfl rfl) (Nat.le_of_ble_eq_true rfl) (Nat.le_of_ble_eq_true rfl) (Nat.le_of_ble_eq_true rfl) ?_
    refine z_if_eq (tgt := 15) dX6_put_5 (by decide) (by omega) (fun c5 => ?_) (fun c5 => absurd c5 (by omega))
    exact g_return dX6_put_15 rfl (Nat.le_of_ble_eq_true rfl) (Nat.le_of_ble_eq_true rfl) ⟨rfl, rfl, by rw [List.set_eq_of_length_le (by omega)]; exact h, fr⟩
set_option maxHeartbeats 1000000 in
theorem Row_push {M : pM} {z q N : Nat} {xs : List Int} {v : Int} (h : Rw M q N xs) : CW I_X6_push yX6_push [.ref q, vI v] M z (fun M' r => r = none ∧ Rw M' q N (if xs.length < N then xs ++ [v] else xs) ∧ Off M M' q (q + 2)) := by
  obtain ⟨g, m_q, m_a, hlen, hN, hg⟩ := id h
  have fr : Off M M q (q + 2) := Off.rf
  refine C.intro (pl := [some (.ref q), some (vI v)]) pn_X6 rfl (fun h => absurd h (by decide)) rfl (Nat.le_of_ble_eq_true rfl) rfl ?_
  by_cases hc : xs.length < N
  · refine g_aload_n dX6_push_0 rfl ?_
    refine z_getf fl_X6_19 dX6_push_1 m_q rfl ?_
    refine z_if_lt (tgt := 39) dX6_push_4 (by decide) (by omega) (fun c4 => absurd c4 (by omega)) (fun c4 => ?_)
    refine g_aload_n dX6_push_7 rfl ?_
    refine z_getf fl_X6_19 dX6_push_8 m_q rfl ?_
    refine g_aload_n dX6_push_11 rfl ?_
    refine z_getf fl_X6_13 dX6_push_12 m_q rfl ?_
    refine z_alenI dX6_push_15 m_a ?_
    refine z_icmp_ge (tgt := 39) dX6_push_16 (by decide) (by omega) (by omega) (fun c16 => absurd c16 (by omega)) (fun c16 => ?_)
    refine g_aload_n dX6_push_19 rfl ?_
    refine z_getf fl_X6_13 dX6_push_20 m_q rfl ?_
    refine g_aload_n dX6_push_23 rfl ?_
    refine z_getf fl_X6_19 dX6_push_24 m_q rfl ?_
    refine g_iload_n dX6_push_27 rfl ?_
    refine z_iastore (j := xs.length) dX6_push_28 m_a (by omega) (by omega) (by omega) (fun M m_a o => ?_)
    have m_q := (o _ (by omega)).trans m_q
    have fr := fr.one o (by omega)
    refine g_aload_n dX6_push_29 rfl ?_
    refine g_dup dX6_push_30 rfl ?_
    refine z_getf fl_X6_19 dX6_push_31 m_q rfl ?_
    refine z_iconst dX6_push_34 ?_
    refine z_iadd dX6_push_35 ?_
    refine z_putf fl_X6_19 dX6_push_36 m_q rfl (Nat.le_of_ble_eq_true rfl) rfl rfl (fun M m_q o => ?_)
    have m_a := (o _ (by omega)).trans m_a
    have fr := fr.one o (by omega)
    refine g_return dX6_push_39 rfl (Nat.le_of_ble_eq_true rfl) (Nat.le_of_ble_eq_true rfl) ⟨rfl, rfl, ?_, fr⟩
    rw [if_pos hc]
    refine ⟨upZ g xs.length v, by rw [List.length_append]; exact m_q, m_a, by rw [List.length_append]; simp; omega, hN, fun i hi => ?_⟩
    rw [List.length_append] at hi
    simp only [List.length_cons, List.length_nil] at hi
    by_cases hij : i = xs.length
    · subst hij; rw [upZ_s]; simp
    · rw [upZ_n hij, List.getElem_append_left (by omega)]; exact hg i (by omega)
  · refine g_aload_n dX6_push_0 rfl ?_
    refine z_getf fl_X6_19 dX6_push_1 m_q rfl ?_
    refine z_if_lt (tgt := 39) dX6_push_4 (by decide) (by omega) (fun c4 => absurd c4 (by omega)) (fun c4 => ?_)
    refine g_aload_n dX6_push_7 rfl ?_
    refine z_getf fl_X6_19 dX6_push_8 m_q rfl ?_
    refine g_aload_n dX6_push_11 rfl ?_
    refine z_getf fl_X6_13 dX6_push_12 m_q rfl ?_
    refine z_alenI dX6_push_15 m_a ?_
    refine z_icmp_ge (tgt := 39) dX6_push_16 (by decide) (by omega) (by omega) (fun c16 => ?_) (fun c16 => absurd c16 (by omega))
    exact g_return dX6_push_39 rfl (Nat.le_of_ble_eq_true rfl) (Nat.le_of_ble_eq_true rfl) ⟨rfl, rfl, by rw [if_neg hc]; exact h, fr⟩
set_option maxHeartbeats 1000000 in
theorem Row_drop {M : pM} {z q N j : Nat} {xs : List Int} (h : Rw M q N xs) (hj : j < 2147483648) : CW I_X6_drop yX6_drop [.ref q, vI (j : Int)] M z (fun M' r => r = none ∧ Rw M' q N (xs.take (xs.length - j)) ∧ Off M M' q (q + 2)) := by
  obtain ⟨g, m_q, m_a, hlen, hN, hg⟩ := id h
  have fr : Off M M q (q + 2) := Off.rf
  refine C.intro (pl := [some (.ref q), some (vI (j : Int))]) pn_X6 rfl (fun h => absurd h (by decide)) rfl (Nat.le_of_ble_eq_true rfl) rfl ?_
  refine g_aload_n dX6_drop_0 rfl ?_
  refine g_dup dX6_drop_1 rfl ?_
  refine z_getf fl_X6_19 dX6_drop_2 m_q rfl ?_
  refine z_iconst dX6_drop_5 ?_
  refine g_iload_n dX6_drop_6 rfl ?_
  refine g_aload_n dX6_drop_7 rfl ?_
  refine z_getf fl_X6_19 dX6_drop_8 m_q rfl ?_
  refine z_min lj_X6_27 dX6_drop_11 ⟨(Nat.le_of_ble_eq_true rfl), (Nat.le_of_ble_eq_true rfl)⟩ (Nat.le_of_ble_eq_true rfl) (Nat.le_of_ble_eq_true rfl) (by omega) (by omega) ?_
  refine z_max lj_X6_7 dX6_drop_14 ⟨(Nat.le_of_ble_eq_true rfl), (Nat.le_of_ble_eq_true rfl)⟩ (Nat.le_of_ble_eq_true rfl) (Nat.le_of_ble_eq_true rfl) (by omega) (by omega) ?_
  refine z_isub dX6_drop_17 ?_
  refine z_putf fl_X6_19 dX6_drop_18 m_q rfl (Nat.le_of_ble_eq_true rfl) rfl rfl (fun M m_q o => ?_)
  have m_a := (o _ (by omega)).trans m_a
  have fr := fr.one o (by omega)
  refine g_return dX6_drop_21 rfl (Nat.le_of_ble_eq_true rfl) (Nat.le_of_ble_eq_true rfl) ⟨rfl, rfl, ⟨g, ?_, m_a, by rw [List.length_take]; omega, hN, fun i hi => ?_⟩, fr⟩
  · rw [m_q]
    have e : ((List.take (xs.length - j) xs).length : Int) = (xs.length : Int) - max 0 (min (j : Int) (xs.length : Int)) := by rw [List.length_take]; omega
    rw [e]; rfl
  · rw [List.length_take] at hi
    rw [List.getElem_take]; exact hg i (by omega)
set_option maxHeartbeats 1000000 in
theorem Row_clear {M : pM} {z q N : Nat} {xs : List Int} (h : Rw M q N xs) : CW I_X6_clear yX6_clear [.ref q] M z (fun M' r => r = none ∧ Rw M' q N [] ∧ Off M M' q (q + 2)) := by
  obtain ⟨g, m_q, m_a, hlen, hN, hg⟩ := id h
  have fr : Off M M q (q + 2) := Off.rf
  refine C.intro (pl := [some (.ref q)]) pn_X6 rfl (fun h => absurd h (by decide)) rfl (Nat.le_of_ble_eq_true rfl) rfl ?_
  refine g_aload_n dX6_clear_0 rfl ?_
  refine z_iconst dX6_clear_1 ?_
  refine z_putf fl_X6_19 dX6_clear_2 m_q rfl (Nat.le_of_ble_eq_true rfl) rfl rfl (fun M m_q o => ?_)
  have m_a := (o _ (by omega)).trans m_a
  have fr := fr.one o (by omega)
  exact g_return dX6_clear_5 rfl (Nat.le_of_ble_eq_true rfl) (Nat.le_of_ble_eq_true rfl) ⟨rfl, rfl, ⟨g, m_q, m_a, by simp, hN, fun i hi => by simp at hi⟩, fr⟩
set_option maxHeartbeats 1000000 in
theorem Row_take {M : pM} {z q p N N2 : Nat} {xs ys : List Int} (h : Rw M q N xs) (h2 : Rw M p N2 ys) (hd : q + 2 ≤ p ∨ p + 2 ≤ q) (hf : ys.length ≤ N) : CW I_X6_take yX6_take [.ref q, .ref p] M z (fun M' r => r = none ∧ Rw M' q N ys ∧ Off M M' q (q + 2)) := by
  obtain ⟨g, m_q, m_a, hlen, hN, hg⟩ := id h
  obtain ⟨g2, m_p, m_b, hlen2, hN2, hg2⟩ := id h2
  have fr : Off M M q (q + 2) := Off.rf
  refine C.intro (pl := [some (.ref q), some (.ref p), none]) pn_X6 rfl (fun h => absurd h (by decide)) rfl (Nat.le_of_ble_eq_true rfl) rfl ?_
  refine g_aload_n dX6_take_0 rfl ?_
  refine z_getf fl_X6_19 dX6_take_1 m_p rfl ?_
  refine g_aload_n dX6_take_4 rfl ?_
  refine z_getf fl_X6_13 dX6_take_5 m_p rfl ?_
  refine z_alenI dX6_take_8 m_b ?_
  refine g_aload_n dX6_take_9 rfl ?_
  refine z_getf fl_X6_13 dX6_take_10 m_q rfl ?_
  refine z_alenI dX6_take_13 m_a ?_
  refine z_min lj_X6_27 dX6_take_14 ⟨(Nat.le_of_ble_eq_true rfl), (Nat.le_of_ble_eq_true rfl)⟩ (Nat.le_of_ble_eq_true rfl) (Nat.le_of_ble_eq_true rfl) (by omega) (by omega) ?_
  refine z_min lj_X6_27 dX6_take_17 ⟨(Nat.le_of_ble_eq_true rfl), (Nat.le_of_ble_eq_true rfl)⟩ (Nat.le_of_ble_eq_true rfl) (Nat.le_of_ble_eq_true rfl) (by omega) (by omega) ?_
  refine g_istore_n dX6_take_20 rfl (Nat.le_of_ble_eq_true rfl) ?_
  refine g_aload_n dX6_take_21 rfl ?_
  refine z_getf fl_X6_13 dX6_take_22 m_p rfl ?_
  refine z_iconst dX6_take_25 ?_
  refine g_aload_n dX6_take_26 rfl ?_
  refine z_getf fl_X6_13 dX6_take_27 m_q rfl ?_
  refine z_iconst dX6_take_30 ?_
  refine g_iload_n dX6_take_31 rfl ?_
  refine z_copy (jn := ys.length) lc_X6_30 dX6_take_32 ⟨(Nat.le_of_ble_eq_true rfl), (Nat.le_of_ble_eq_true rfl)⟩ m_b m_a (js := 0) (jd := 0) (by omega) (by omega) (by omega) (by omega) (by omega) (by omega) (by omega) (fun M m_a o => ?_)
  have m_q := (o _ (by omega)).trans m_q
  have m_p := (o _ (by omega)).trans m_p
  have m_b := (o _ (by omega)).trans m_b
  have fr := fr.one o (by omega)
  refine g_aload_n dX6_take_35 rfl ?_
  refine g_iload_n dX6_take_36 rfl ?_
  refine z_putf fl_X6_19 dX6_take_37 m_q rfl (Nat.le_of_ble_eq_true rfl) rfl rfl (fun M m_q o => ?_)
  have m_a := (o _ (by omega)).trans m_a
  have m_p := (o _ (by omega)).trans m_p
  have m_b := (o _ (by omega)).trans m_b
  have fr := fr.one o (by omega)
  refine g_return dX6_take_40 rfl (Nat.le_of_ble_eq_true rfl) (Nat.le_of_ble_eq_true rfl) ⟨rfl, rfl, ⟨cpZ g2 g 0 0 ys.length, ?_, m_a, hf, hN, fun i hi => ?_⟩, fr⟩
  · rw [m_q]
    have e : min (ys.length : Int) (min (N2 : Int) (N : Int)) = (ys.length : Int) := by omega
    rw [e]; rfl
  · show cpZ g2 g 0 0 ys.length i = _
    unfold cpZ
    rw [if_pos (by omega)]
    simpa using hg2 i hi
set_option maxHeartbeats 1000000 in
theorem Row_same {M : pM} {z q p N N2 : Nat} {xs ys : List Int} (h : Rw M q N xs) (h2 : Rw M p N2 ys) (hx : ∀ x ∈ xs, -2147483648 ≤ x ∧ x < 2147483648) (hy : ∀ y ∈ ys, -2147483648 ≤ y ∧ y < 2147483648) : CR I_X6_same yX6_same [.ref q, .ref p] M z (some (vI (if xs = ys then 1 else 0))) := by
  obtain ⟨g, m_q, m_a, hlen, hN, hg⟩ := id h
  obtain ⟨g2, m_p, m_b, hlen2, hN2, hg2⟩ := id h2
  refine C.intro (pl := [some (.ref q), some (.ref p), none]) pn_X6 rfl (fun h => absurd h (by decide)) rfl (Nat.le_of_ble_eq_true rfl) rfl ?_
  have hgd : ∀ (l : List Int) (i : Nat), (∀ x ∈ l, -2147483648 ≤ x ∧ x < 2147483648) → -2147483648 ≤ l.getD i 0 ∧ l.getD i 0 < 2147483648 := by
    intro l i hl
    by_cases hi : i < l.length
    · rw [List.getD_eq_getElem?_getD, List.getElem?_eq_getElem hi]; exact hl _ (List.getElem_mem hi)
    · rw [List.getD_eq_getElem?_getD, List.getElem?_eq_none (by omega)]; simp
  have loop : xs.length = ys.length → ∀ (n i : Nat), i ≤ xs.length → xs.length - i = n → xs.take i = ys.take i → G I_X6_same 0 0 (fun M' z' r' => M' = M ∧ z' = z ∧ r' = some (vI (if xs = ys then 1 else 0))) 0 0 15 [some (.ref q), some (.ref p), some (vI (i : Int))] [] M z := by
    intro hl n
    induction n with
    | zero =>
      intro i hi hn ht
      refine g_iload_n dX6_same_15 rfl ?_
      refine g_aload_n dX6_same_16 rfl ?_
      refine z_getf fl_X6_19 dX6_same_17 m_q rfl ?_
      refine z_icmp_ge (tgt := 44) dX6_same_20 (by decide) (by omega) (by omega) (fun c20 => ?_) (fun c20 => absurd c20 (by omega))
      refine z_iconst dX6_same_44 ?_
      exact g_zreturn dX6_same_45 rfl (by first | rfl | decide) (Nat.le_of_ble_eq_true rfl) (Nat.le_of_ble_eq_true rfl) ⟨rfl, rfl, by rw [if_pos (by rw [List.take_of_length_le (by omega), List.take_of_length_le (by omega)] at ht; exact ht)]⟩
    | succ n ih =>
      intro i hi hn ht
      have hb1 := hgd xs i hx
      have hb2 := hgd ys i hy
      refine g_iload_n dX6_same_15 rfl ?_
      refine g_aload_n dX6_same_16 rfl ?_
      refine z_getf fl_X6_19 dX6_same_17 m_q rfl ?_
      refine z_icmp_ge (tgt := 44) dX6_same_20 (by decide) (by omega) (by omega) (fun c20 => absurd c20 (by omega)) (fun c20 => ?_)
      refine g_aload_n dX6_same_23 rfl ?_
      refine g_iload_n dX6_same_24 rfl ?_
      refine z_callVR dX6_same_25 lm_X6_36 lk_X6_item (Row_item h (by omega)) rfl rfl m_q rfl (mkRoom rfl rfl) (Nat.le_of_ble_eq_true rfl) (Nat.le_of_ble_eq_true rfl) (Nat.le_of_ble_eq_true rfl) ?_
      refine g_aload_n dX6_same_28 rfl ?_
      refine g_iload_n dX6_same_29 rfl ?_
      refine z_callVR dX6_same_30 lm_X6_36 lk_X6_item (Row_item h2 (by omega)) rfl rfl m_p rfl (mkRoom rfl rfl) (Nat.le_of_ble_eq_true rfl) (Nat.le_of_ble_eq_true rfl) (Nat.le_of_ble_eq_true rfl) ?_
      refine z_icmp_eq (tgt := 38) dX6_same_33 (by decide) (by omega) (by omega) (fun c33 => ?_) (fun c33 => ?_)
      · refine z_iinc dX6_same_38 rfl (Nat.le_of_ble_eq_true rfl) ?_
        refine g_goto (tgt := 15) dX6_same_41 (by decide) ?_
        exact ih (i + 1) (by omega) (by omega) (by rw [List.take_succ, List.take_succ, ht]; congr 1; rw [List.getElem?_eq_getElem (by omega), List.getElem?_eq_getElem (by omega)]; simpa [List.getD_eq_getElem?_getD, List.getElem?_eq_getElem (show i < xs.length by omega), List.getElem?_eq_getElem (show i < ys.length by omega)] using c33)
      · refine z_iconst dX6_same_36 ?_
        exact g_zreturn dX6_same_37 rfl (by first | rfl | decide) (Nat.le_of_ble_eq_true rfl) (Nat.le_of_ble_eq_true rfl) ⟨rfl, rfl, by rw [if_neg (fun e => c33 (by rw [e]))]⟩
  refine g_aload_n dX6_same_0 rfl ?_
  refine z_getf fl_X6_19 dX6_same_1 m_q rfl ?_
  refine g_aload_n dX6_same_4 rfl ?_
  refine z_getf fl_X6_19 dX6_same_5 m_p rfl ?_
  refine z_icmp_eq (tgt := 13) dX6_same_8 (by decide) (by omega) (by omega) (fun c8 => ?_) (fun c8 => ?_)
  · refine z_iconst dX6_same_13 ?_
    refine g_istore_n dX6_same_14 rfl (Nat.le_of_ble_eq_true rfl) ?_
    exact loop (by omega) xs.length 0 (Nat.zero_le _) (by omega) rfl
  · refine z_iconst dX6_same_11 ?_
    exact g_zreturn dX6_same_12 rfl (by first | rfl | decide) (Nat.le_of_ble_eq_true rfl) (Nat.le_of_ble_eq_true rfl) ⟨rfl, rfl, by rw [if_neg (fun e => c8 (by rw [e]))]⟩
