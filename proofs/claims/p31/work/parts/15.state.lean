/-! the classes Route, Ledger, State -/
abbrev iv : Type := Int × Int × Int
def cst (L : List iv) : Int := (L.map (fun x => lgc (x.2.1 - x.1) x.2.2)).sum
theorem cst_snoc (L : List iv) (x : iv) : cst (L ++ [x]) = cst L + lgc (x.2.1 - x.1) x.2.2 := by unfold cst; rw [List.map_append, List.sum_append]; simp
def Rt (M : pM) (rt : Nat) (L : List iv) (ord : Int) : Prop := M rt = some (ob 5 [.ref (rt + 1), .ref (rt + 3), .ref (rt + 5), vI ord]) ∧ Rw M (rt + 1) 5 (L.map (fun x => x.1)) ∧ Rw M (rt + 3) 5 (L.map (fun x => x.2.1)) ∧ Rw M (rt + 5) 5 (L.map (fun x => x.2.2))
theorem Rt.off {M M' : pM} {rt lo hi : Nat} {L : List iv} {ord : Int} (h : Rt M rt L ord) (ho : Off M M' lo hi) (hd : rt + 7 ≤ lo ∨ hi ≤ rt) : Rt M' rt L ord := ⟨(ho _ (by omega)).trans h.1, h.2.1.off ho (by omega), h.2.2.1.off ho (by omega), h.2.2.2.off ho (by omega)⟩
theorem Rt.len {M : pM} {rt : Nat} {L : List iv} {ord : Int} (h : Rt M rt L ord) : L.length ≤ 5 := by have := h.2.1.len.1; simpa using this
theorem getD_map {α : Type} (f : α → Int) (L : List α) {k : Nat} (h : k < L.length) : (L.map f).getD k 0 = f L[k] := by
  rw [List.getD_eq_getElem?_getD, List.getElem?_map, List.getElem?_eq_getElem h]; rfl
set_option maxHeartbeats 1000000 in
theorem Rt_clear {M : pM} {z rt : Nat} {L : List iv} {ord : Int} (h : Rt M rt L ord) : CW I_X5_clear yX5_clear [.ref rt] M z (fun M' r => r = none ∧ Rt M' rt [] (-1) ∧ Off M M' rt (rt + 7)) := by
  obtain ⟨m_r, h1, h2, h3⟩ := id h
  have fr : Off M M rt (rt + 7) := Off.rf
  refine C.intro (pl := [some (.ref rt)]) pn_X5 rfl (fun h => absurd h (by decide)) rfl (Nat.le_of_ble_eq_true rfl) rfl ?_
  refine g_aload_n dX5_clear_0 rfl ?_
  refine z_getf fl_X5_14 dX5_clear_1 m_r rfl ?_
  refine z_callVV dX5_clear_4 lm_X5_26 lk_X6_clear (Row_clear h1) rfl rfl (Rw.obj h1) rfl (mkRoom rfl rfl) (Nat.le_of_ble_eq_true rfl) (Nat.le_of_ble_eq_true rfl) (Nat.le_of_ble_eq_true rfl) (fun M r hp => ?_)
  obtain ⟨rfl, h1, o1⟩ := hp
  have m_r := (o1 _ (by omega)).trans m_r
  have h2 := h2.off o1 (by omega)
  have h3 := h3.off o1 (by omega)
  have fr := fr.tr (o1.wd (by omega) (by omega))
  refine g_aload_n dX5_clear_7 rfl ?_
  refine z_getf fl_X5_20 dX5_clear_8 m_r rfl ?_
  refine z_callVV dX5_clear_11 lm_X5_26 lk_X6_clear (Row_clear h2) rfl rfl (Rw.obj h2) rfl (mkRoom rfl rfl) (Nat.le_of_ble_eq_true rfl) (Nat.le_of_ble_eq_true rfl) (Nat.le_of_ble_eq_true rfl) (fun M r hp => ?_)
  obtain ⟨rfl, h2, o1⟩ := hp
  have m_r := (o1 _ (by omega)).trans m_r
  have h1 := h1.off o1 (by omega)
  have h3 := h3.off o1 (by omega)
  have fr := fr.tr (o1.wd (by omega) (by omega))
  refine g_aload_n dX5_clear_14 rfl ?_
  refine z_getf fl_X5_23 dX5_clear_15 m_r rfl ?_
  refine z_callVV dX5_clear_18 lm_X5_26 lk_X6_clear (Row_clear h3) rfl rfl (Rw.obj h3) rfl (mkRoom rfl rfl) (Nat.le_of_ble_eq_true rfl) (Nat.le_of_ble_eq_true rfl) (Nat.le_of_ble_eq_true rfl) (fun M r hp => ?_)
  obtain ⟨rfl, h3, o1⟩ := hp
  have m_r := (o1 _ (by omega)).trans m_r
  have h1 := h1.off o1 (by omega)
  have h2 := h2.off o1 (by omega)
  have fr := fr.tr (o1.wd (by omega) (by omega))
  refine g_aload_n dX5_clear_21 rfl ?_
  refine z_iconst dX5_clear_22 ?_
  refine z_putf fl_X5_29 dX5_clear_23 m_r rfl (Nat.le_of_ble_eq_true rfl) rfl rfl (fun M m_r o => ?_)
  have fr := fr.one o (by omega)
  have o1 : Off _ M rt (rt + 1) := fun x hx => o x (by omega)
  have h1 := h1.off o1 (by omega)
  have h2 := h2.off o1 (by omega)
  have h3 := h3.off o1 (by omega)
  exact g_return dX5_clear_26 rfl (Nat.le_of_ble_eq_true rfl) (Nat.le_of_ble_eq_true rfl) ⟨rfl, rfl, ⟨m_r, h1, h2, h3⟩, fr⟩
set_option maxHeartbeats 1000000 in
theorem Rt_add {M : pM} {z rt : Nat} {L : List iv} {ord a b t : Int} (h : Rt M rt L ord) (hl : L.length < 5) : CW I_X5_add yX5_add [.ref rt, vI a, vI b, vI t] M z (fun M' r => r = none ∧ Rt M' rt (L ++ [(a, b, t)]) ord ∧ Off M M' rt (rt + 7)) := by
  obtain ⟨m_r, h1, h2, h3⟩ := id h
  have fr : Off M M rt (rt + 7) := Off.rf
  refine C.intro (pl := [some (.ref rt), some (vI a), some (vI b), some (vI t)]) pn_X5 rfl (fun h => absurd h (by decide)) rfl (Nat.le_of_ble_eq_true rfl) rfl ?_
  refine g_aload_n dX5_add_0 rfl ?_
  refine z_getf fl_X5_14 dX5_add_1 m_r rfl ?_
  refine g_iload_n dX5_add_4 rfl ?_
  refine z_callVV dX5_add_5 lm_X5_33 lk_X6_push (Row_push h1) rfl rfl (Rw.obj h1) rfl (mkRoom rfl rfl) (Nat.le_of_ble_eq_true rfl) (Nat.le_of_ble_eq_true rfl) (Nat.le_of_ble_eq_true rfl) (fun M r hp => ?_)
  obtain ⟨rfl, h1, o1⟩ := hp
  have m_r := (o1 _ (by omega)).trans m_r
  have h2 := h2.off o1 (by omega)
  have h3 := h3.off o1 (by omega)
  have fr := fr.tr (o1.wd (by omega) (by omega))
  rw [if_pos (by simpa using hl)] at h1
  refine g_aload_n dX5_add_8 rfl ?_
  refine z_getf fl_X5_20 dX5_add_9 m_r rfl ?_
  refine g_iload_n dX5_add_12 rfl ?_
  refine z_callVV dX5_add_13 lm_X5_33 lk_X6_push (Row_push h2) rfl rfl (Rw.obj h2) rfl (mkRoom rfl rfl) (Nat.le_of_ble_eq_true rfl) (Nat.le_of_ble_eq_true rfl) (Nat.le_of_ble_eq_true rfl) (fun M r hp => ?_)
  obtain ⟨rfl, h2, o1⟩ := hp
  have m_r := (o1 _ (by omega)).trans m_r
  have h1 := h1.off o1 (by omega)
  have h3 := h3.off o1 (by omega)
  have fr := fr.tr (o1.wd (by omega) (by omega))
  rw [if_pos (by simpa using hl)] at h2
  refine g_aload_n dX5_add_16 rfl ?_
  refine z_getf fl_X5_23 dX5_add_17 m_r rfl ?_
  refine g_iload_n dX5_add_20 rfl ?_
  refine z_callVV dX5_add_21 lm_X5_33 lk_X6_push (Row_push h3) rfl rfl (Rw.obj h3) rfl (mkRoom rfl rfl) (Nat.le_of_ble_eq_true rfl) (Nat.le_of_ble_eq_true rfl) (Nat.le_of_ble_eq_true rfl) (fun M r hp => ?_)
  obtain ⟨rfl, h3, o1⟩ := hp
  have m_r := (o1 _ (by omega)).trans m_r
  have h1 := h1.off o1 (by omega)
  have h2 := h2.off o1 (by omega)
  have fr := fr.tr (o1.wd (by omega) (by omega))
  rw [if_pos (by simpa using hl)] at h3
  exact g_return dX5_add_24 rfl (Nat.le_of_ble_eq_true rfl) (Nat.le_of_ble_eq_true rfl) ⟨rfl, rfl, ⟨m_r, by rw [List.map_append]; exact h1, by rw [List.map_append]; exact h2, by rw [List.map_append]; exact h3⟩, fr⟩
set_option maxHeartbeats 1000000 in
theorem Rt_size {M : pM} {z rt : Nat} {L : List iv} {ord : Int} (h : Rt M rt L ord) : CR I_X5_size yX5_size [.ref rt] M z (some (vI (L.length : Int))) := by
  obtain ⟨m_r, h1, h2, h3⟩ := id h
  have fr : Off M M rt (rt + 7) := Off.rf
  have m_v := h3.obj
  refine C.intro (pl := [some (.ref rt)]) pn_X5 rfl (fun h => absurd h (by decide)) rfl (Nat.le_of_ble_eq_true rfl) rfl ?_
  refine g_aload_n dX5_size_0 rfl ?_
  refine z_getf fl_X5_23 dX5_size_1 m_r rfl ?_
  refine z_getf fl_X5_36 dX5_size_4 m_v rfl ?_
  exact g_ireturn dX5_size_7 rfl (Nat.le_of_ble_eq_true rfl) (Nat.le_of_ble_eq_true rfl) ⟨rfl, rfl, by rw [List.length_map]⟩
set_option maxHeartbeats 1000000 in
theorem Rt_cost {M : pM} {z rt : Nat} {L : List iv} {ord : Int} (h : Rt M rt L ord) (hr : ∀ x ∈ L, (-2147483648 ≤ x.2.1 - x.1 ∧ x.2.1 - x.1 < 2147483648) ∧ (-2147483648 ≤ x.2.2 ∧ x.2.2 < 2147483648)) : CR I_X5_sumOfCosts yX5_sumOfCosts [.ref rt] M z (some (vI (cst L))) := by
  obtain ⟨m_r, h1, h2, h3⟩ := id h
  have fr : Off M M rt (rt + 7) := Off.rf
  have m_v := h3.obj
  rw [List.length_map] at m_v
  have hl := h.len
  refine C.intro (pl := [some (.ref rt), none, none]) pn_X5 rfl (fun h => absurd h (by decide)) rfl (Nat.le_of_ble_eq_true rfl) rfl ?_
  have loop : ∀ (n k : Nat), k ≤ L.length → L.length - k = n → G I_X5_sumOfCosts 0 0 (fun M' z' r' => M' = M ∧ z' = z ∧ r' = some (vI (cst L))) 0 0 4 [some (.ref rt), some (vI (cst (L.take k))), some (vI (k : Int))] [] M z := by
    intro n
    induction n with
    | zero =>
      intro k hk hn
      have e : k = L.length := by omega
      subst e
      refine g_iload_n dX5_sumOfCosts_4 rfl ?_
      refine g_aload_n dX5_sumOfCosts_5 rfl ?_
      refine z_getf fl_X5_23 dX5_sumOfCosts_6 m_r rfl ?_
      refine z_getf fl_X5_36 dX5_sumOfCosts_9 m_v rfl ?_
      refine z_icmp_ge (tgt := 52) dX5_sumOfCosts_12 (by decide) (by omega) (by omega) (fun c12 => ?_) (fun c12 => absurd c12 (by omega))
      refine g_iload_n dX5_sumOfCosts_52 rfl ?_
      exact g_ireturn dX5_sumOfCosts_53 rfl (Nat.le_of_ble_eq_true rfl) (Nat.le_of_ble_eq_true rfl) ⟨rfl, rfl, by rw [List.take_length]⟩
    | succ n ih =>
      intro k hk hn
      have hk2 : k < L.length := by omega
      have hx := hr _ (List.getElem_mem hk2)
      have ih2 := ih (k + 1) (by omega) (by omega)
      rw [List.take_succ, List.getElem?_eq_getElem hk2, Option.toList_some, cst_snoc] at ih2
      have e1 := getD_map (fun x : iv => x.1) L hk2
      have e2 := getD_map (fun x : iv => x.2.1) L hk2
      have e3 := getD_map (fun x : iv => x.2.2) L hk2
      refine g_iload_n dX5_sumOfCosts_4 rfl ?_
      refine g_aload_n dX5_sumOfCosts_5 rfl ?_
      refine z_getf fl_X5_23 dX5_sumOfCosts_6 m_r rfl ?_
      refine z_getf fl_X5_36 dX5_sumOfCosts_9 m_v rfl ?_
      refine z_icmp_ge (tgt := 52) dX5_sumOfCosts_12 (by decide) (by omega) (by omega) (fun c12 => absurd c12 (by omega)) (fun c12 => ?_)
      refine g_iload_n dX5_sumOfCosts_15 rfl ?_
      refine g_aload_n dX5_sumOfCosts_16 rfl ?_
      refine z_getf fl_X5_20 dX5_sumOfCosts_17 m_r rfl ?_
      refine g_iload_n dX5_sumOfCosts_20 rfl ?_
      refine z_callVR dX5_sumOfCosts_21 lm_X5_39 lk_X6_item (Row_item (j := k) h2 (by omega)) rfl rfl (Rw.obj h2) rfl (mkRoom rfl rfl) (Nat.le_of_ble_eq_true rfl) (Nat.le_of_ble_eq_true rfl) (Nat.le_of_ble_eq_true rfl) ?_
      refine g_aload_n dX5_sumOfCosts_24 rfl ?_
      refine z_getf fl_X5_14 dX5_sumOfCosts_25 m_r rfl ?_
      refine g_iload_n dX5_sumOfCosts_28 rfl ?_
      refine z_callVR dX5_sumOfCosts_29 lm_X5_39 lk_X6_item (Row_item (j := k) h1 (by omega)) rfl rfl (Rw.obj h1) rfl (mkRoom rfl rfl) (Nat.le_of_ble_eq_true rfl) (Nat.le_of_ble_eq_true rfl) (Nat.le_of_ble_eq_true rfl) ?_
      refine z_isub dX5_sumOfCosts_32 ?_
      refine g_aload_n dX5_sumOfCosts_33 rfl ?_
      refine z_getf fl_X5_23 dX5_sumOfCosts_34 m_r rfl ?_
      refine g_iload_n dX5_sumOfCosts_37 rfl ?_
      refine z_callVR dX5_sumOfCosts_38 lm_X5_39 lk_X6_item (Row_item (j := k) h3 (by omega)) rfl rfl (Rw.obj h3) rfl (mkRoom rfl rfl) (Nat.le_of_ble_eq_true rfl) (Nat.le_of_ble_eq_true rfl) (Nat.le_of_ble_eq_true rfl) ?_
      refine z_callSR dX5_sumOfCosts_41 lm_X5_43 lk_X8_intervalCost (x_intervalCost (by rw [e1, e2]; exact hx.1) (by rw [e3]; exact hx.2)) rfl rfl (mkRoom rfl rfl) (Nat.le_of_ble_eq_true rfl) (Nat.le_of_ble_eq_true rfl) (Nat.le_of_ble_eq_true rfl) ?_
      refine z_iadd dX5_sumOfCosts_44 ?_
      refine g_istore_n dX5_sumOfCosts_45 rfl (Nat.le_of_ble_eq_true rfl) ?_
      refine z_iinc dX5_sumOfCosts_46 rfl (Nat.le_of_ble_eq_true rfl) ?_
      refine g_goto (tgt := 4) dX5_sumOfCosts_49 (by decide) ?_
      rw [e1, e2, e3]
      exact ih2
  refine z_iconst dX5_sumOfCosts_0 ?_
  refine g_istore_n dX5_sumOfCosts_1 rfl (Nat.le_of_ble_eq_true rfl) ?_
  refine z_iconst dX5_sumOfCosts_2 ?_
  refine g_istore_n dX5_sumOfCosts_3 rfl (Nat.le_of_ble_eq_true rfl) ?_
  exact loop L.length 0 (Nat.zero_le _) (by omega)
abbrev ac : Type := Int × Int × Int × Int
def Lg (M : pM) (lo : Nat) (A : List ac) (lng : Int) : Prop := M lo = some (ob 3 [.ref (lo + 1), .ref (lo + 3), .ref (lo + 5), .ref (lo + 7), vI lng]) ∧ Rw M (lo + 1) 201 (A.map (fun x => x.1)) ∧ Rw M (lo + 3) 201 (A.map (fun x => x.2.1)) ∧ Rw M (lo + 5) 201 (A.map (fun x => x.2.2.1)) ∧ Rw M (lo + 7) 201 (A.map (fun x => x.2.2.2))
theorem Lg.off {M M' : pM} {lo l h : Nat} {A : List ac} {lng : Int} (hh : Lg M lo A lng) (ho : Off M M' l h) (hd : lo + 9 ≤ l ∨ h ≤ lo) : Lg M' lo A lng := ⟨(ho _ (by omega)).trans hh.1, hh.2.1.off ho (by omega), hh.2.2.1.off ho (by omega), hh.2.2.2.1.off ho (by omega), hh.2.2.2.2.off ho (by omega)⟩
theorem Lg.len {M : pM} {lo : Nat} {A : List ac} {lng : Int} (h : Lg M lo A lng) : A.length ≤ 201 := by have := h.2.1.len.1; simpa using this
set_option maxHeartbeats 1000000 in
theorem Lg_clear {M : pM} {z lo : Nat} {A : List ac} {lng : Int} (h : Lg M lo A lng) : CW I_X3_clear yX3_clear [.ref lo] M z (fun M' r => r = none ∧ Lg M' lo [] 0 ∧ Off M M' lo (lo + 9)) := by
  obtain ⟨m_l, h1, h2, h3, h4⟩ := id h
  have fr : Off M M lo (lo + 9) := Off.rf
  refine C.intro (pl := [some (.ref lo)]) pn_X3 rfl (fun h => absurd h (by decide)) rfl (Nat.le_of_ble_eq_true rfl) rfl ?_
  refine g_aload_n dX3_clear_0 rfl ?_
  refine z_getf fl_X3_14 dX3_clear_1 m_l rfl ?_
  refine z_callVV dX3_clear_4 lm_X3_29 lk_X6_clear (Row_clear h1) rfl rfl (Rw.obj h1) rfl (mkRoom rfl rfl) (Nat.le_of_ble_eq_true rfl) (Nat.le_of_ble_eq_true rfl) (Nat.le_of_ble_eq_true rfl) (fun M r hp => ?_)
  obtain ⟨rfl, h1, o1⟩ := hp
  have m_l := (o1 _ (by omega)).trans m_l
  have h2 := h2.off o1 (by omega)
  have h3 := h3.off o1 (by omega)
  have h4 := h4.off o1 (by omega)
  have fr := fr.tr (o1.wd (by omega) (by omega))
  refine g_aload_n dX3_clear_7 rfl ?_
  refine z_getf fl_X3_20 dX3_clear_8 m_l rfl ?_
  refine z_callVV dX3_clear_11 lm_X3_29 lk_X6_clear (Row_clear h2) rfl rfl (Rw.obj h2) rfl (mkRoom rfl rfl) (Nat.le_of_ble_eq_true rfl) (Nat.le_of_ble_eq_true rfl) (Nat.le_of_ble_eq_true rfl) (fun M r hp => ?_)
  obtain ⟨rfl, h2, o1⟩ := hp
  have m_l := (o1 _ (by omega)).trans m_l
  have h1 := h1.off o1 (by omega)
  have h3 := h3.off o1 (by omega)
  have h4 := h4.off o1 (by omega)
  have fr := fr.tr (o1.wd (by omega) (by omega))
  refine g_aload_n dX3_clear_14 rfl ?_
  refine z_getf fl_X3_23 dX3_clear_15 m_l rfl ?_
  refine z_callVV dX3_clear_18 lm_X3_29 lk_X6_clear (Row_clear h3) rfl rfl (Rw.obj h3) rfl (mkRoom rfl rfl) (Nat.le_of_ble_eq_true rfl) (Nat.le_of_ble_eq_true rfl) (Nat.le_of_ble_eq_true rfl) (fun M r hp => ?_)
  obtain ⟨rfl, h3, o1⟩ := hp
  have m_l := (o1 _ (by omega)).trans m_l
  have h1 := h1.off o1 (by omega)
  have h2 := h2.off o1 (by omega)
  have h4 := h4.off o1 (by omega)
  have fr := fr.tr (o1.wd (by omega) (by omega))
  refine g_aload_n dX3_clear_21 rfl ?_
  refine z_getf fl_X3_26 dX3_clear_22 m_l rfl ?_
  refine z_callVV dX3_clear_25 lm_X3_29 lk_X6_clear (Row_clear h4) rfl rfl (Rw.obj h4) rfl (mkRoom rfl rfl) (Nat.le_of_ble_eq_true rfl) (Nat.le_of_ble_eq_true rfl) (Nat.le_of_ble_eq_true rfl) (fun M r hp => ?_)
  obtain ⟨rfl, h4, o1⟩ := hp
  have m_l := (o1 _ (by omega)).trans m_l
  have h1 := h1.off o1 (by omega)
  have h2 := h2.off o1 (by omega)
  have h3 := h3.off o1 (by omega)
  have fr := fr.tr (o1.wd (by omega) (by omega))
  refine g_aload_n dX3_clear_28 rfl ?_
  refine z_iconst dX3_clear_29 ?_
  refine z_putf fl_X3_32 dX3_clear_30 m_l rfl (Nat.le_of_ble_eq_true rfl) rfl rfl (fun M m_l o => ?_)
  have fr := fr.one o (by omega)
  have o1 : Off _ M lo (lo + 1) := fun x hx => o x (by omega)
  have h1 := h1.off o1 (by omega)
  have h2 := h2.off o1 (by omega)
  have h3 := h3.off o1 (by omega)
  have h4 := h4.off o1 (by omega)
  exact g_return dX3_clear_33 rfl (Nat.le_of_ble_eq_true rfl) (Nat.le_of_ble_eq_true rfl) ⟨rfl, rfl, ⟨m_l, h1, h2, h3, h4⟩, fr⟩
set_option maxHeartbeats 1000000 in
theorem Lg_add {M : pM} {z lo : Nat} {A : List ac} {lng a b c d : Int} (h : Lg M lo A lng) (hl : A.length < 201) : CW I_X3_add yX3_add [.ref lo, vI a, vI b, vI c, vI d] M z (fun M' r => r = none ∧ Lg M' lo (A ++ [(a, b, c, d)]) lng ∧ Off M M' lo (lo + 9)) := by
  obtain ⟨m_l, h1, h2, h3, h4⟩ := id h
  have fr : Off M M lo (lo + 9) := Off.rf
  refine C.intro (pl := [some (.ref lo), some (vI a), some (vI b), some (vI c), some (vI d)]) pn_X3 rfl (fun h => absurd h (by decide)) rfl (Nat.le_of_ble_eq_true rfl) rfl ?_
  refine g_aload_n dX3_add_0 rfl ?_
  refine z_getf fl_X3_14 dX3_add_1 m_l rfl ?_
  refine g_iload_n dX3_add_4 rfl ?_
  refine z_callVV dX3_add_5 lm_X3_36 lk_X6_push (Row_push h1) rfl rfl (Rw.obj h1) rfl (mkRoom rfl rfl) (Nat.le_of_ble_eq_true rfl) (Nat.le_of_ble_eq_true rfl) (Nat.le_of_ble_eq_true rfl) (fun M r hp => ?_)
  obtain ⟨rfl, h1, o1⟩ := hp
  have m_l := (o1 _ (by omega)).trans m_l
  have h2 := h2.off o1 (by omega)
  have h3 := h3.off o1 (by omega)
  have h4 := h4.off o1 (by omega)
  have fr := fr.tr (o1.wd (by omega) (by omega))
  rw [if_pos (by simpa using hl)] at h1
  refine g_aload_n dX3_add_8 rfl ?_
  refine z_getf fl_X3_20 dX3_add_9 m_l rfl ?_
  refine g_iload_n dX3_add_12 rfl ?_
  refine z_callVV dX3_add_13 lm_X3_36 lk_X6_push (Row_push h2) rfl rfl (Rw.obj h2) rfl (mkRoom rfl rfl) (Nat.le_of_ble_eq_true rfl) (Nat.le_of_ble_eq_true rfl) (Nat.le_of_ble_eq_true rfl) (fun M r hp => ?_)
  obtain ⟨rfl, h2, o1⟩ := hp
  have m_l := (o1 _ (by omega)).trans m_l
  have h1 := h1.off o1 (by omega)
  have h3 := h3.off o1 (by omega)
  have h4 := h4.off o1 (by omega)
  have fr := fr.tr (o1.wd (by omega) (by omega))
  rw [if_pos (by simpa using hl)] at h2
  refine g_aload_n dX3_add_16 rfl ?_
  refine z_getf fl_X3_23 dX3_add_17 m_l rfl ?_
  refine g_iload_n dX3_add_20 rfl ?_
  refine z_callVV dX3_add_21 lm_X3_36 lk_X6_push (Row_push h3) rfl rfl (Rw.obj h3) rfl (mkRoom rfl rfl) (Nat.le_of_ble_eq_true rfl) (Nat.le_of_ble_eq_true rfl) (Nat.le_of_ble_eq_true rfl) (fun M r hp => ?_)
  obtain ⟨rfl, h3, o1⟩ := hp
  have m_l := (o1 _ (by omega)).trans m_l
  have h1 := h1.off o1 (by omega)
  have h2 := h2.off o1 (by omega)
  have h4 := h4.off o1 (by omega)
  have fr := fr.tr (o1.wd (by omega) (by omega))
  rw [if_pos (by simpa using hl)] at h3
  refine g_aload_n dX3_add_24 rfl ?_
  refine z_getf fl_X3_26 dX3_add_25 m_l rfl ?_
  refine g_iload dX3_add_28 rfl ?_
  refine z_callVV dX3_add_30 lm_X3_36 lk_X6_push (Row_push h4) rfl rfl (Rw.obj h4) rfl (mkRoom rfl rfl) (Nat.le_of_ble_eq_true rfl) (Nat.le_of_ble_eq_true rfl) (Nat.le_of_ble_eq_true rfl) (fun M r hp => ?_)
  obtain ⟨rfl, h4, o1⟩ := hp
  have m_l := (o1 _ (by omega)).trans m_l
  have h1 := h1.off o1 (by omega)
  have h2 := h2.off o1 (by omega)
  have h3 := h3.off o1 (by omega)
  have fr := fr.tr (o1.wd (by omega) (by omega))
  rw [if_pos (by simpa using hl)] at h4
  exact g_return dX3_add_33 rfl (Nat.le_of_ble_eq_true rfl) (Nat.le_of_ble_eq_true rfl) ⟨rfl, rfl, ⟨m_l, by rw [List.map_append]; exact h1, by rw [List.map_append]; exact h2, by rw [List.map_append]; exact h3, by rw [List.map_append]; exact h4⟩, fr⟩
set_option maxHeartbeats 1000000 in
theorem Lg_take {M : pM} {z lo l2 : Nat} {A A2 : List ac} {lng lng2 : Int} (h : Lg M lo A lng) (g : Lg M l2 A2 lng2) (hd : lo + 9 ≤ l2 ∨ l2 + 9 ≤ lo) : CW I_X3_take yX3_take [.ref lo, .ref l2] M z (fun M' r => r = none ∧ Lg M' lo A2 lng2 ∧ Off M M' lo (lo + 9)) := by
  obtain ⟨m_l, h1, h2, h3, h4⟩ := id h
  have fr : Off M M lo (lo + 9) := Off.rf
  obtain ⟨m_p, g1, g2, g3, g4⟩ := id g
  have hl2 := g.len
  refine C.intro (pl := [some (.ref lo), some (.ref l2)]) pn_X3 rfl (fun h => absurd h (by decide)) rfl (Nat.le_of_ble_eq_true rfl) rfl ?_
  refine g_aload_n dX3_take_0 rfl ?_
  refine z_getf fl_X3_14 dX3_take_1 m_l rfl ?_
  refine g_aload_n dX3_take_4 rfl ?_
  refine z_getf fl_X3_14 dX3_take_5 m_p rfl ?_
  refine z_callVV dX3_take_8 lm_X3_39 lk_X6_take (Row_take h1 g1 (by omega) (by simpa using hl2)) rfl rfl (Rw.obj h1) rfl (mkRoom rfl rfl) (Nat.le_of_ble_eq_true rfl) (Nat.le_of_ble_eq_true rfl) (Nat.le_of_ble_eq_true rfl) (fun M r hp => ?_)
  obtain ⟨rfl, h1, o1⟩ := hp
  have m_l := (o1 _ (by omega)).trans m_l
  have m_p := (o1 _ (by omega)).trans m_p
  have h2 := h2.off o1 (by omega)
  have h3 := h3.off o1 (by omega)
  have h4 := h4.off o1 (by omega)
  have g1 := g1.off o1 (by omega)
  have g2 := g2.off o1 (by omega)
  have g3 := g3.off o1 (by omega)
  have g4 := g4.off o1 (by omega)
  have fr := fr.tr (o1.wd (by omega) (by omega))
  refine g_aload_n dX3_take_11 rfl ?_
  refine z_getf fl_X3_20 dX3_take_12 m_l rfl ?_
  refine g_aload_n dX3_take_15 rfl ?_
  refine z_getf fl_X3_20 dX3_take_16 m_p rfl ?_
  refine z_callVV dX3_take_19 lm_X3_39 lk_X6_take (Row_take h2 g2 (by omega) (by simpa using hl2)) rfl rfl (Rw.obj h2) rfl (mkRoom rfl rfl) (Nat.le_of_ble_eq_true rfl) (Nat.le_of_ble_eq_true rfl) (Nat.le_of_ble_eq_true rfl) (fun M r hp => ?_)
  obtain ⟨rfl, h2, o1⟩ := hp
  have m_l := (o1 _ (by omega)).trans m_l
  have m_p := (o1 _ (by omega)).trans m_p
  have h1 := h1.off o1 (by omega)
  have h3 := h3.off o1 (by omega)
  have h4 := h4.off o1 (by omega)
  have g1 := g1.off o1 (by omega)
  have g2 := g2.off o1 (by omega)
  have g3 := g3.off o1 (by omega)
  have g4 := g4.off o1 (by omega)
  have fr := fr.tr (o1.wd (by omega) (by omega))
  refine g_aload_n dX3_take_22 rfl ?_
  refine z_getf fl_X3_23 dX3_take_23 m_l rfl ?_
  refine g_aload_n dX3_take_26 rfl ?_
  refine z_getf fl_X3_23 dX3_take_27 m_p rfl ?_
  refine z_callVV dX3_take_30 lm_X3_39 lk_X6_take (Row_take h3 g3 (by omega) (by simpa using hl2)) rfl rfl (Rw.obj h3) rfl (mkRoom rfl rfl) (Nat.le_of_ble_eq_true rfl) (Nat.le_of_ble_eq_true rfl) (Nat.le_of_ble_eq_true rfl) (fun M r hp => ?_)
  obtain ⟨rfl, h3, o1⟩ := hp
  have m_l := (o1 _ (by omega)).trans m_l
  have m_p := (o1 _ (by omega)).trans m_p
  have h1 := h1.off o1 (by omega)
  have h2 := h2.off o1 (by omega)
  have h4 := h4.off o1 (by omega)
  have g1 := g1.off o1 (by omega)
  have g2 := g2.off o1 (by omega)
  have g3 := g3.off o1 (by omega)
  have g4 := g4.off o1 (by omega)
  have fr := fr.tr (o1.wd (by omega) (by omega))
  refine g_aload_n dX3_take_33 rfl ?_
  refine z_getf fl_X3_26 dX3_take_34 m_l rfl ?_
  refine g_aload_n dX3_take_37 rfl ?_
  refine z_getf fl_X3_26 dX3_take_38 m_p rfl ?_
  refine z_callVV dX3_take_41 lm_X3_39 lk_X6_take (Row_take h4 g4 (by omega) (by simpa using hl2)) rfl rfl (Rw.obj h4) rfl (mkRoom rfl rfl) (Nat.le_of_ble_eq_true rfl) (Nat.le_of_ble_eq_true rfl) (Nat.le_of_ble_eq_true rfl) (fun M r hp => ?_)
  obtain ⟨rfl, h4, o1⟩ := hp
  have m_l := (o1 _ (by omega)).trans m_l
  have m_p := (o1 _ (by omega)).trans m_p
  have h1 := h1.off o1 (by omega)
  have h2 := h2.off o1 (by omega)
  have h3 := h3.off o1 (by omega)
  have g1 := g1.off o1 (by omega)
  have g2 := g2.off o1 (by omega)
  have g3 := g3.off o1 (by omega)
  have g4 := g4.off o1 (by omega)
  have fr := fr.tr (o1.wd (by omega) (by omega))
  refine g_aload_n dX3_take_44 rfl ?_
  refine g_aload_n dX3_take_45 rfl ?_
  refine z_getf fl_X3_32 dX3_take_46 m_p rfl ?_
  refine z_putf fl_X3_32 dX3_take_49 m_l rfl (Nat.le_of_ble_eq_true rfl) rfl rfl (fun M m_l o => ?_)
  have m_p := (o _ (by omega)).trans m_p
  have fr := fr.one o (by omega)
  have o1 : Off _ M lo (lo + 1) := fun x hx => o x (by omega)
  have h1 := h1.off o1 (by omega)
  have h2 := h2.off o1 (by omega)
  have h3 := h3.off o1 (by omega)
  have h4 := h4.off o1 (by omega)
  exact g_return dX3_take_52 rfl (Nat.le_of_ble_eq_true rfl) (Nat.le_of_ble_eq_true rfl) ⟨rfl, rfl, ⟨m_l, h1, h2, h3, h4⟩, fr⟩
def Stt (M : pM) (st : Nat) (ord exc stp lim : Int) (t : tbl) (code : List Int) (A : List ac) (lng : Int) (res : List Int) : Prop := M st = some (ob 7 [vI ord, vI exc, vI stp, vI lim, .ref (st + 1), .ref (st + 6), .ref (st + 8), .ref (st + 17)]) ∧ Md M (st + 1) t ∧ Rw M (st + 6) 400 code ∧ Lg M (st + 8) A lng ∧ Rw M (st + 17) 200 res
theorem Stt.off {M M' : pM} {st l h : Nat} {ord exc stp lim : Int} {t : tbl} {code : List Int} {A : List ac} {lng : Int} {res : List Int} (hh : Stt M st ord exc stp lim t code A lng res) (ho : Off M M' l h) (hd : st + 19 ≤ l ∨ h ≤ st) : Stt M' st ord exc stp lim t code A lng res := ⟨(ho _ (by omega)).trans hh.1, hh.2.1.off ho (by omega), hh.2.2.1.off ho (by omega), hh.2.2.2.1.off ho (by omega), hh.2.2.2.2.off ho (by omega)⟩
set_option maxHeartbeats 1000000 in
theorem Stt_settings {M : pM} {z st s2 : Nat} {ord exc stp lim ord2 exc2 stp2 lim2 : Int} {t t2 : tbl} {code code2 : List Int} {A A2 : List ac} {lng lng2 : Int} {res res2 : List Int} (h : Stt M st ord exc stp lim t code A lng res) (g : Stt M s2 ord2 exc2 stp2 lim2 t2 code2 A2 lng2 res2) (he : exc2 = 0 ∨ exc2 = 1) (hd : st + 19 ≤ s2 ∨ s2 + 19 ≤ st) : CW I_X7_takeSettings yX7_takeSettings [.ref st, .ref s2] M z (fun M' r => r = none ∧ Stt M' st ord2 exc2 stp2 lim2 t code A lng res ∧ Off M M' st (st + 1)) := by
  obtain ⟨m_s, h1, h2, h3, h4⟩ := id h
  obtain ⟨m_p, g1, g2, g3, g4⟩ := id g
  have fr : Off M M st (st + 1) := Off.rf
  refine C.intro (pl := [some (.ref st), some (.ref s2)]) pn_X7 rfl (fun h => absurd h (by decide)) rfl (Nat.le_of_ble_eq_true rfl) rfl ?_
  refine g_aload_n dX7_takeSettings_0 rfl ?_
  refine g_aload_n dX7_takeSettings_1 rfl ?_
  refine z_getf fl_X7_51 dX7_takeSettings_2 m_p rfl ?_
  refine z_putf fl_X7_51 dX7_takeSettings_5 m_s rfl (Nat.le_of_ble_eq_true rfl) rfl rfl (fun M m_s o => ?_)
  have m_p := (o _ (by omega)).trans m_p
  have fr := fr.one o (by omega)
  have o1 : Off _ M st (st + 1) := fun x hx => o x (by omega)
  have h1 := h1.off o1 (by omega)
  have h2 := h2.off o1 (by omega)
  have h3 := h3.off o1 (by omega)
  have h4 := h4.off o1 (by omega)
  refine g_aload_n dX7_takeSettings_8 rfl ?_
  refine g_aload_n dX7_takeSettings_9 rfl ?_
  refine z_getf fl_X7_55 dX7_takeSettings_10 m_p rfl ?_
  refine z_putf fl_X7_55 dX7_takeSettings_13 m_s rfl (Nat.le_of_ble_eq_true rfl) (by rcases he with rfl | rfl <;> rfl) (by rcases he with rfl | rfl <;> rfl) (fun M m_s o => ?_)
  have m_p := (o _ (by omega)).trans m_p
  have fr := fr.one o (by omega)
  have o1 : Off _ M st (st + 1) := fun x hx => o x (by omega)
  have h1 := h1.off o1 (by omega)
  have h2 := h2.off o1 (by omega)
  have h3 := h3.off o1 (by omega)
  have h4 := h4.off o1 (by omega)
  refine g_aload_n dX7_takeSettings_16 rfl ?_
  refine g_aload_n dX7_takeSettings_17 rfl ?_
  refine z_getf fl_X7_59 dX7_takeSettings_18 m_p rfl ?_
  refine z_putf fl_X7_59 dX7_takeSettings_21 m_s rfl (Nat.le_of_ble_eq_true rfl) rfl rfl (fun M m_s o => ?_)
  have m_p := (o _ (by omega)).trans m_p
  have fr := fr.one o (by omega)
  have o1 : Off _ M st (st + 1) := fun x hx => o x (by omega)
  have h1 := h1.off o1 (by omega)
  have h2 := h2.off o1 (by omega)
  have h3 := h3.off o1 (by omega)
  have h4 := h4.off o1 (by omega)
  refine g_aload_n dX7_takeSettings_24 rfl ?_
  refine g_aload_n dX7_takeSettings_25 rfl ?_
  refine z_getf fl_X7_62 dX7_takeSettings_26 m_p rfl ?_
  refine z_putf fl_X7_62 dX7_takeSettings_29 m_s rfl (Nat.le_of_ble_eq_true rfl) rfl rfl (fun M m_s o => ?_)
  have m_p := (o _ (by omega)).trans m_p
  have fr := fr.one o (by omega)
  have o1 : Off _ M st (st + 1) := fun x hx => o x (by omega)
  have h1 := h1.off o1 (by omega)
  have h2 := h2.off o1 (by omega)
  have h3 := h3.off o1 (by omega)
  have h4 := h4.off o1 (by omega)
  exact g_return dX7_takeSettings_32 rfl (Nat.le_of_ble_eq_true rfl) (Nat.le_of_ble_eq_true rfl) ⟨rfl, rfl, ⟨m_s, h1, h2, h3, h4⟩, fr⟩
set_option maxHeartbeats 1000000 in
theorem Stt_take {M : pM} {z st s2 : Nat} {ord exc stp lim ord2 exc2 stp2 lim2 : Int} {t t2 : tbl} {code code2 : List Int} {A A2 : List ac} {lng lng2 : Int} {res res2 : List Int} (h : Stt M st ord exc stp lim t code A lng res) (g : Stt M s2 ord2 exc2 stp2 lim2 t2 code2 A2 lng2 res2) (he : exc2 = 0 ∨ exc2 = 1) (hd : st + 19 ≤ s2 ∨ s2 + 19 ≤ st) : CW I_X7_take yX7_take [.ref st, .ref s2] M z (fun M' r => r = none ∧ Stt M' st ord2 exc2 stp2 lim2 t2 code2 A2 lng2 res2 ∧ Off M M' st (st + 19)) := by
  obtain ⟨m_s, h1, h2, h3, h4⟩ := id h
  obtain ⟨m_p, g1, g2, g3, g4⟩ := id g
  have fr : Off M M st (st + 19) := Off.rf
  refine C.intro (pl := [some (.ref st), some (.ref s2)]) pn_X7 rfl (fun h => absurd h (by decide)) rfl (Nat.le_of_ble_eq_true rfl) rfl ?_
  refine g_aload_n dX7_take_0 rfl ?_
  refine g_aload_n dX7_take_1 rfl ?_
  refine z_callVV dX7_take_2 lm_X7_37 lk_X7_takeSettings (Stt_settings h g he hd) rfl rfl m_s rfl (mkRoom rfl rfl) (Nat.le_of_ble_eq_true rfl) (Nat.le_of_ble_eq_true rfl) (Nat.le_of_ble_eq_true rfl) (fun M r hp => ?_)
  obtain ⟨rfl, h, o1⟩ := hp
  obtain ⟨m_s, h1, h2, h3, h4⟩ := id h
  have g := g.off o1 (by omega)
  obtain ⟨m_p, g1, g2, g3, g4⟩ := id g
  have fr := fr.tr (o1.wd (by omega) (by omega))
  refine g_aload_n dX7_take_5 rfl ?_
  refine z_getf fl_X7_12 dX7_take_6 m_s rfl ?_
  refine g_aload_n dX7_take_9 rfl ?_
  refine z_getf fl_X7_12 dX7_take_10 m_p rfl ?_
  refine z_callVV dX7_take_13 lm_X7_41 lk_X4_take (Md_take h1 g1 (by omega)) rfl rfl (Md.obj h1) rfl (mkRoom rfl rfl) (Nat.le_of_ble_eq_true rfl) (Nat.le_of_ble_eq_true rfl) (Nat.le_of_ble_eq_true rfl) (fun M r hp => ?_)
  obtain ⟨rfl, h1, o1⟩ := hp
  have m_s := (o1 _ (by omega)).trans m_s
  have m_p := (o1 _ (by omega)).trans m_p
  have h2 := h2.off o1 (by omega)
  have h3 := h3.off o1 (by omega)
  have h4 := h4.off o1 (by omega)
  have g1 := g1.off o1 (by omega)
  have g2 := g2.off o1 (by omega)
  have g3 := g3.off o1 (by omega)
  have g4 := g4.off o1 (by omega)
  have fr := fr.tr (o1.wd (by omega) (by omega))
  refine g_aload_n dX7_take_16 rfl ?_
  refine z_getf fl_X7_23 dX7_take_17 m_s rfl ?_
  refine g_aload_n dX7_take_20 rfl ?_
  refine z_getf fl_X7_23 dX7_take_21 m_p rfl ?_
  refine z_callVV dX7_take_24 lm_X7_45 lk_X6_take (Row_take h2 g2 (by omega) g2.len.1) rfl rfl (Rw.obj h2) rfl (mkRoom rfl rfl) (Nat.le_of_ble_eq_true rfl) (Nat.le_of_ble_eq_true rfl) (Nat.le_of_ble_eq_true rfl) (fun M r hp => ?_)
  obtain ⟨rfl, h2, o1⟩ := hp
  have m_s := (o1 _ (by omega)).trans m_s
  have m_p := (o1 _ (by omega)).trans m_p
  have h1 := h1.off o1 (by omega)
  have h3 := h3.off o1 (by omega)
  have h4 := h4.off o1 (by omega)
  have g1 := g1.off o1 (by omega)
  have g2 := g2.off o1 (by omega)
  have g3 := g3.off o1 (by omega)
  have g4 := g4.off o1 (by omega)
  have fr := fr.tr (o1.wd (by omega) (by omega))
  refine g_aload_n dX7_take_27 rfl ?_
  refine z_getf fl_X7_30 dX7_take_28 m_s rfl ?_
  refine g_aload_n dX7_take_31 rfl ?_
  refine z_getf fl_X7_30 dX7_take_32 m_p rfl ?_
  refine z_callVV dX7_take_35 lm_X7_48 lk_X3_take (Lg_take h3 g3 (by omega)) rfl rfl h3.1 rfl (mkRoom rfl rfl) (Nat.le_of_ble_eq_true rfl) (Nat.le_of_ble_eq_true rfl) (Nat.le_of_ble_eq_true rfl) (fun M r hp => ?_)
  obtain ⟨rfl, h3, o1⟩ := hp
  have m_s := (o1 _ (by omega)).trans m_s
  have m_p := (o1 _ (by omega)).trans m_p
  have h1 := h1.off o1 (by omega)
  have h2 := h2.off o1 (by omega)
  have h4 := h4.off o1 (by omega)
  have g1 := g1.off o1 (by omega)
  have g2 := g2.off o1 (by omega)
  have g3 := g3.off o1 (by omega)
  have g4 := g4.off o1 (by omega)
  have fr := fr.tr (o1.wd (by omega) (by omega))
  refine g_aload_n dX7_take_38 rfl ?_
  refine z_getf fl_X7_34 dX7_take_39 m_s rfl ?_
  refine g_aload_n dX7_take_42 rfl ?_
  refine z_getf fl_X7_34 dX7_take_43 m_p rfl ?_
  refine z_callVV dX7_take_46 lm_X7_45 lk_X6_take (Row_take h4 g4 (by omega) g4.len.1) rfl rfl (Rw.obj h4) rfl (mkRoom rfl rfl) (Nat.le_of_ble_eq_true rfl) (Nat.le_of_ble_eq_true rfl) (Nat.le_of_ble_eq_true rfl) (fun M r hp => ?_)
  obtain ⟨rfl, h4, o1⟩ := hp
  have m_s := (o1 _ (by omega)).trans m_s
  have m_p := (o1 _ (by omega)).trans m_p
  have h1 := h1.off o1 (by omega)
  have h2 := h2.off o1 (by omega)
  have h3 := h3.off o1 (by omega)
  have g1 := g1.off o1 (by omega)
  have g2 := g2.off o1 (by omega)
  have g3 := g3.off o1 (by omega)
  have g4 := g4.off o1 (by omega)
  have fr := fr.tr (o1.wd (by omega) (by omega))
  exact g_return dX7_take_49 rfl (Nat.le_of_ble_eq_true rfl) (Nat.le_of_ble_eq_true rfl) ⟨rfl, rfl, ⟨m_s, h1, h2, h3, h4⟩, fr⟩
