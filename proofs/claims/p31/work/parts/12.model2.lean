theorem wt_0 : wt (fun _ => 0) = 0 := by decide +kernel
theorem kn_0 : kn (fun _ => 0) = 0 := by decide +kernel
set_option maxHeartbeats 1000000 in
theorem Md_meet {M : pM} {z mo : Nat} {t : tbl} {k : Int} (h : Md M mo t) (hk : 0 ≤ k ∧ k < 2147483648) : CW I_X4_meet yX4_meet [.ref mo, vI k] M z (fun M' r => r = some (vI (met t k).2) ∧ Md M' mo (met t k).1 ∧ Off M M' mo (mo + 5)) := by
  obtain ⟨gk, gw, gn, gc, m_o, m_k, m_w, m_n, m_c, hlen, hok, hg⟩ := id h
  have fr : Off M M mo (mo + 5) := Off.rf
  refine C.intro (pl := [some (.ref mo), some (vI k), none, none]) pn_X4 rfl (fun h => absurd h (by decide)) rfl (Nat.le_of_ble_eq_true rfl) rfl ?_
  have hf := fnd_cases t k
  have hfr : -1 ≤ fnd t k ∧ fnd t k ≤ 250 := by rcases hf with ⟨h1, -⟩ | ⟨i, h1, h2, -⟩ <;> omega
  by_cases hm : 0 ≤ fnd t k ∨ 250 ≤ t.length
  · have e : met t k = (t, fnd t k) := by unfold met; rw [if_pos hm]
    rw [e]
    refine g_aload_n dX4_meet_0 rfl ?_
    refine g_iload_n dX4_meet_1 rfl ?_
    refine z_callVR dX4_meet_2 lm_X4_43 lk_X4_find (Md_find h (by omega)) rfl rfl m_o rfl (mkRoom rfl rfl) (Nat.le_of_ble_eq_true rfl) (Nat.le_of_ble_eq_true rfl) (Nat.le_of_ble_eq_true rfl) ?_
    refine g_istore_n dX4_meet_5 rfl (Nat.le_of_ble_eq_true rfl) ?_
    refine g_iload_n dX4_meet_6 rfl ?_
    refine z_if_ge (tgt := 27) dX4_meet_7 (by decide) (by omega) (fun c7 => ?_) (fun c7 => ?_)
    · refine g_iload_n dX4_meet_27 rfl ?_
      exact g_ireturn dX4_meet_28 rfl (Nat.le_of_ble_eq_true rfl) (Nat.le_of_ble_eq_true rfl) ⟨rfl, rfl, h, fr⟩
    · refine g_aload_n dX4_meet_10 rfl ?_
      refine z_getf fl_X4_24 dX4_meet_11 m_o rfl ?_
      refine z_if_lt (tgt := 27) dX4_meet_14 (by decide) (by omega) (fun c14 => ?_) (fun c14 => ?_)
      · refine g_iload_n dX4_meet_27 rfl ?_
        exact g_ireturn dX4_meet_28 rfl (Nat.le_of_ble_eq_true rfl) (Nat.le_of_ble_eq_true rfl) ⟨rfl, rfl, h, fr⟩
      · refine g_aload_n dX4_meet_17 rfl ?_
        refine z_getf fl_X4_24 dX4_meet_18 m_o rfl ?_
        refine z_sipush dX4_meet_21 (by decide +kernel) ?_
        refine z_icmp_lt (tgt := 29) dX4_meet_24 (by decide) (by omega) (by omega) (fun c24 => ?_) (fun c24 => ?_)
        · exfalso; omega
        · refine g_iload_n dX4_meet_27 rfl ?_
          exact g_ireturn dX4_meet_28 rfl (Nat.le_of_ble_eq_true rfl) (Nat.le_of_ble_eq_true rfl) ⟨rfl, rfl, h, fr⟩
  · have e : met t k = (t ++ [(k, fun _ => 0)], (t.length : Int)) := by unfold met; rw [if_neg hm]
    rw [e]
    have hl : t.length < 250 := by omega
    have loop : ∀ (n s : Nat) (M1 : pM) (g : Nat → Int), s ≤ 96 → 96 - s = n → Off M M1 mo (mo + 5) → M1 mo = some (ob 4 [vI ((t.length : Int) + 1), .ref (mo + 1), .ref (mo + 2), .ref (mo + 3), .ref (mo + 4)]) → M1 (mo + 1) = some (arI 250 (upZ gk t.length k)) → M1 (mo + 2) = some (arI 250 (upZ gw t.length 0)) → M1 (mo + 3) = some (arI 250 (upZ gn t.length 0)) → M1 (mo + 4) = some (arI 24000 g) → (∀ x, g x = if t.length * 96 ≤ x ∧ x < t.length * 96 + s then 0 else gc x) → G I_X4_meet 0 0 (fun M' z' r' => z' = z ∧ r' = some (vI (t.length : Int)) ∧ Md M' mo (t ++ [(k, fun _ => 0)]) ∧ Off M M' mo (mo + 5)) 0 0 67 [some (.ref mo), some (vI k), some (vI (t.length : Int)), some (vI (s : Int))] [] M1 z := by
      intro n
      induction n with
      | zero =>
        intro s M g hs hn fr m_o m_k m_w m_n m_c hgx
        have hs2 : s = 96 := by omega
        subst hs2
        refine g_iload_n dX4_meet_67 rfl ?_
        refine z_bipush dX4_meet_68 (by decide +kernel) ?_
        refine z_icmp_ge (tgt := 91) dX4_meet_70 (by decide) (by omega) (by omega) (fun c70 => ?_) (fun c70 => absurd c70 (by omega))
        refine g_iload_n dX4_meet_91 rfl ?_
        refine g_ireturn dX4_meet_92 rfl (Nat.le_of_ble_eq_true rfl) (Nat.le_of_ble_eq_true rfl) ⟨rfl, rfl, ⟨upZ gk t.length k, upZ gw t.length 0, upZ gn t.length 0, g, by rw [List.length_append]; exact m_o, m_k, m_w, m_n, m_c, by rw [List.length_append]; simp; omega, fun e he => ?_, fun j hj => ?_⟩, fr⟩
        · rcases List.mem_append.mp he with he | he
          · exact hok e he
          · rw [List.mem_singleton] at he
            subst he
            exact ⟨hk, fun _ _ => Int.le_refl _, by show wt (fun _ => 0) ≤ 1010; rw [wt_0]; decide⟩
        · rw [List.length_append] at hj
          simp only [List.length_cons, List.length_nil] at hj
          by_cases e : j = t.length
          · subst e
            rw [upZ_s, upZ_s, upZ_s]
            rw [List.getElem_append_right (Nat.le_refl _)]
            simp only [Nat.sub_self, List.getElem_cons_zero]
            exact ⟨trivial, wt_0.symm, kn_0.symm, fun x hx => by rw [hgx, if_pos (by omega)]⟩
          · have hj2 : j < t.length := by omega
            rw [upZ_n e, upZ_n e, upZ_n e, List.getElem_append_left hj2]
            obtain ⟨u1, u2, u3, u4⟩ := hg j hj2
            exact ⟨u1, u2, u3, fun x hx => by rw [hgx, if_neg (by omega)]; exact u4 x hx⟩
      | succ n ih =>
        intro s M g hs hn fr m_o m_k m_w m_n m_c hgx
        have hs2 : s < 96 := by omega
        refine g_iload_n dX4_meet_67 rfl ?_
        refine z_bipush dX4_meet_68 (by decide +kernel) ?_
        refine z_icmp_ge (tgt := 91) dX4_meet_70 (by decide) (by omega) (by omega) (fun c70 => absurd c70 (by omega)) (fun c70 => ?_)
        refine g_aload_n dX4_meet_73 rfl ?_
        refine z_getf fl_X4_21 dX4_meet_74 m_o rfl ?_
        refine g_iload_n dX4_meet_77 rfl ?_
        refine z_bipush dX4_meet_78 (by decide +kernel) ?_
        refine z_imul dX4_meet_80 ?_
        refine g_iload_n dX4_meet_81 rfl ?_
        refine z_iadd dX4_meet_82 ?_
        refine z_iconst dX4_meet_83 ?_
        refine z_iastore (j := t.length * 96 + s) dX4_meet_84 m_c (by omega) (by omega) (by omega) (fun M m_c o => ?_)
        have m_o := (o _ (by omega)).trans m_o
        have m_k := (o _ (by omega)).trans m_k
        have m_w := (o _ (by omega)).trans m_w
        have m_n := (o _ (by omega)).trans m_n
        have fr := fr.one o (by omega)
        refine z_iinc dX4_meet_85 rfl (Nat.le_of_ble_eq_true rfl) ?_
        refine g_goto (tgt := 67) dX4_meet_88 (by decide) ?_
        refine ih (s + 1) M _ (by omega) (by omega) fr m_o m_k m_w m_n m_c (fun x => ?_)
        by_cases hx : x = t.length * 96 + s
        · subst hx; rw [upZ_s, if_pos (by omega)]
        · rw [upZ_n hx, hgx]
          by_cases hy : t.length * 96 ≤ x ∧ x < t.length * 96 + s
          · rw [if_pos hy, if_pos (by omega)]
          · rw [if_neg hy, if_neg (by omega)]
    refine g_aload_n dX4_meet_0 rfl ?_
    refine g_iload_n dX4_meet_1 rfl ?_
    refine z_callVR dX4_meet_2 lm_X4_43 lk_X4_find (Md_find h (by omega)) rfl rfl m_o rfl (mkRoom rfl rfl) (Nat.le_of_ble_eq_true rfl) (Nat.le_of_ble_eq_true rfl) (Nat.le_of_ble_eq_true rfl) ?_
    refine g_istore_n dX4_meet_5 rfl (Nat.le_of_ble_eq_true rfl) ?_
    refine g_iload_n dX4_meet_6 rfl ?_
    refine z_if_ge (tgt := 27) dX4_meet_7 (by decide) (by omega) (fun c7 => ?_) (fun c7 => ?_)
    · refine g_iload_n dX4_meet_27 rfl ?_
      exact g_ireturn dX4_meet_28 rfl (Nat.le_of_ble_eq_true rfl) (Nat.le_of_ble_eq_true rfl) ⟨rfl, by exfalso; omega⟩
    · refine g_aload_n dX4_meet_10 rfl ?_
      refine z_getf fl_X4_24 dX4_meet_11 m_o rfl ?_
      refine z_if_lt (tgt := 27) dX4_meet_14 (by decide) (by omega) (fun c14 => ?_) (fun c14 => ?_)
      · refine g_iload_n dX4_meet_27 rfl ?_
        exact g_ireturn dX4_meet_28 rfl (Nat.le_of_ble_eq_true rfl) (Nat.le_of_ble_eq_true rfl) ⟨rfl, by exfalso; omega⟩
      · refine g_aload_n dX4_meet_17 rfl ?_
        refine z_getf fl_X4_24 dX4_meet_18 m_o rfl ?_
        refine z_sipush dX4_meet_21 (by decide +kernel) ?_
        refine z_icmp_lt (tgt := 29) dX4_meet_24 (by decide) (by omega) (by omega) (fun c24 => ?_) (fun c24 => ?_)
        · refine g_aload_n dX4_meet_29 rfl ?_
          refine z_getf fl_X4_24 dX4_meet_30 m_o rfl ?_
          refine g_istore_n dX4_meet_33 rfl (Nat.le_of_ble_eq_true rfl) ?_
          refine g_aload_n dX4_meet_34 rfl ?_
          refine g_dup dX4_meet_35 rfl ?_
          refine z_getf fl_X4_24 dX4_meet_36 m_o rfl ?_
          refine z_iconst dX4_meet_39 ?_
          refine z_iadd dX4_meet_40 ?_
          refine z_putf fl_X4_24 dX4_meet_41 m_o rfl (Nat.le_of_ble_eq_true rfl) rfl rfl (fun M m_o o => ?_)
          have m_k := (o _ (by omega)).trans m_k
          have m_w := (o _ (by omega)).trans m_w
          have m_n := (o _ (by omega)).trans m_n
          have m_c := (o _ (by omega)).trans m_c
          have fr := fr.one o (by omega)
          refine g_aload_n dX4_meet_44 rfl ?_
          refine z_getf fl_X4_9 dX4_meet_45 m_o rfl ?_
          refine g_iload_n dX4_meet_48 rfl ?_
          refine g_iload_n dX4_meet_49 rfl ?_
          refine z_iastore (j := t.length) dX4_meet_50 m_k (by omega) (by omega) (by omega) (fun M m_k o => ?_)
          have m_o := (o _ (by omega)).trans m_o
          have m_w := (o _ (by omega)).trans m_w
          have m_n := (o _ (by omega)).trans m_n
          have m_c := (o _ (by omega)).trans m_c
          have fr := fr.one o (by omega)
          refine g_aload_n dX4_meet_51 rfl ?_
          refine z_getf fl_X4_15 dX4_meet_52 m_o rfl ?_
          refine g_iload_n dX4_meet_55 rfl ?_
          refine z_iconst dX4_meet_56 ?_
          refine z_iastore (j := t.length) dX4_meet_57 m_w (by omega) (by omega) (by omega) (fun M m_w o => ?_)
          have m_o := (o _ (by omega)).trans m_o
          have m_k := (o _ (by omega)).trans m_k
          have m_n := (o _ (by omega)).trans m_n
          have m_c := (o _ (by omega)).trans m_c
          have fr := fr.one o (by omega)
          refine g_aload_n dX4_meet_58 rfl ?_
          refine z_getf fl_X4_18 dX4_meet_59 m_o rfl ?_
          refine g_iload_n dX4_meet_62 rfl ?_
          refine z_iconst dX4_meet_63 ?_
          refine z_iastore (j := t.length) dX4_meet_64 m_n (by omega) (by omega) (by omega) (fun M m_n o => ?_)
          have m_o := (o _ (by omega)).trans m_o
          have m_k := (o _ (by omega)).trans m_k
          have m_w := (o _ (by omega)).trans m_w
          have m_c := (o _ (by omega)).trans m_c
          have fr := fr.one o (by omega)
          refine z_iconst dX4_meet_65 ?_
          refine g_istore_n dX4_meet_66 rfl (Nat.le_of_ble_eq_true rfl) ?_
          exact loop 96 0 M gc (Nat.zero_le _) rfl fr m_o m_k m_w m_n m_c (fun x => by rw [if_neg (by omega)])
        · refine g_iload_n dX4_meet_27 rfl ?_
          exact g_ireturn dX4_meet_28 rfl (Nat.le_of_ble_eq_true rfl) (Nat.le_of_ble_eq_true rfl) ⟨rfl, by exfalso; omega⟩
theorem kn_up {c : Nat → Int} {s : Nat} {v : Int} (hs : s < 96) : kn (upZ c s v) = kn c - (if 0 < c s then 1 else 0) + (if 0 < v then 1 else 0) := by
  unfold kn
  rw [← sm_up (c := fun s => if 0 < c s then (1 : Int) else 0) hs]
  refine sm_cong (fun x _ => ?_)
  by_cases e : x = s
  · subst e; simp [upZ]
  · simp [upZ, e]
set_option maxHeartbeats 1000000 in
theorem Md_raise {M : pM} {z mo i s : Nat} {t : tbl} {step limit : Int} (h : Md M mo t) (hi : i < t.length) (hs : s < 96) (hw : wt t[i].2 ≤ 1000) (hst : 1 ≤ step ∧ step ≤ 10) (hli : 20 ≤ limit ∧ limit ≤ 1000) : CW I_X4_raise yX4_raise [.ref mo, vI (i : Int), vI (s : Int), vI step, vI limit] M z (fun M' r => r = none ∧ Md M' mo (rse t i s step limit) ∧ Off M M' mo (mo + 5)) := by
  obtain ⟨gk, gw, gn, gc, m_o, m_k, m_w, m_n, m_c, hlen, hok, hg⟩ := id h
  have fr : Off M M mo (mo + 5) := Off.rf
  refine C.intro (pl := [some (.ref mo), some (vI (i : Int)), some (vI (s : Int)), some (vI step), some (vI limit), none]) pn_X4 rfl (fun h => absurd h (by decide)) rfl (Nat.le_of_ble_eq_true rfl) rfl ?_
  have hoki := hok _ (List.getElem_mem hi)
  have hci := hoki.cnt hs
  have hgc := (hg i hi).2.2.2 s hs
  have hgw := (hg i hi).2.1
  have hgn := (hg i hi).2.2.1
  have hkr := kn_rng t[i].2
  have hwn : 0 ≤ wt t[i].2 := sm_nn hoki.2.1
  have hwu : wt (upZ t[i].2 s (t[i].2 s + step)) = wt t[i].2 + step := by unfold wt; rw [sm_up hs]; omega
  have hku := kn_up (c := t[i].2) (s := s) (v := t[i].2 s + step) hs
  rw [if_pos (show 0 < t[i].2 s + step by omega)] at hku
  have er : rse t i s step limit = t.set i (t[i].1, grw t[i].2 s step limit) := by unfold rse; rw [List.getElem?_eq_getElem hi]
  rw [er]
  have cont : ∀ (M1 : pM) (g2 : Nat → Int), Off M M1 mo (mo + 5) → M1 mo = some (ob 4 [vI t.length, .ref (mo + 1), .ref (mo + 2), .ref (mo + 3), .ref (mo + 4)]) → M1 (mo + 1) = some (arI 250 gk) → M1 (mo + 2) = some (arI 250 gw) → M1 (mo + 3) = some (arI 250 g2) → M1 (mo + 4) = some (arI 24000 gc) → g2 i = kn (upZ t[i].2 s (t[i].2 s + step)) → (∀ j, j ≠ i → g2 j = gn j) → G I_X4_raise 0 0 (fun M' z' r' => z' = z ∧ r' = none ∧ Md M' mo (t.set i (t[i].1, grw t[i].2 s step limit)) ∧ Off M M' mo (mo + 5)) 0 0 47 [some (.ref mo), some (vI (i : Int)), some (vI (s : Int)), some (vI step), some (vI limit), some (vI ((i * 96 + s : Nat) : Int))] [] M1 z := by
    intro M g2 fr m_o m_k m_w m_n m_c hg2 hg2n
    refine g_aload_n dX4_raise_47 rfl ?_
    refine z_getf fl_X4_21 dX4_raise_48 m_o rfl ?_
    refine g_iload dX4_raise_51 rfl ?_
    refine g_dup2 dX4_raise_53 rfl rfl ?_
    refine z_iaload (j := i * 96 + s) dX4_raise_54 m_c (by omega) (by omega) (by omega) ?_
    refine g_iload_n dX4_raise_55 rfl ?_
    refine z_iadd dX4_raise_56 ?_
    refine z_iastore (j := i * 96 + s) dX4_raise_57 m_c (by omega) (by omega) (by omega) (fun M m_c o => ?_)
    have m_o := (o _ (by omega)).trans m_o
    have m_k := (o _ (by omega)).trans m_k
    have m_w := (o _ (by omega)).trans m_w
    have m_n := (o _ (by omega)).trans m_n
    have fr := fr.one o (by omega)
    refine g_aload_n dX4_raise_58 rfl ?_
    refine z_getf fl_X4_15 dX4_raise_59 m_o rfl ?_
    refine g_iload_n dX4_raise_62 rfl ?_
    refine g_dup2 dX4_raise_63 rfl rfl ?_
    refine z_iaload (j := i) dX4_raise_64 m_w (by omega) (by omega) (by omega) ?_
    refine g_iload_n dX4_raise_65 rfl ?_
    refine z_iadd dX4_raise_66 ?_
    refine z_iastore (j := i) dX4_raise_67 m_w (by omega) (by omega) (by omega) (fun M m_w o => ?_)
    have m_o := (o _ (by omega)).trans m_o
    have m_k := (o _ (by omega)).trans m_k
    have m_n := (o _ (by omega)).trans m_n
    have m_c := (o _ (by omega)).trans m_c
    have fr := fr.one o (by omega)
    have hmd : Md M mo (t.set i (t[i].1, upZ t[i].2 s (t[i].2 s + step))) := by
      refine ⟨gk, upZ gw i (gw i + step), g2, upZ gc (i * 96 + s) (gc (i * 96 + s) + step), by rw [List.length_set]; exact m_o, m_k, m_w, m_n, m_c, by rw [List.length_set]; exact hlen, fun e he => ?_, fun j hj => ?_⟩
      · rcases List.mem_or_eq_of_mem_set he with he | rfl
        · exact hok e he
        · refine ⟨hoki.1, fun x hx => ?_, by rw [hwu]; omega⟩
          by_cases e : x = s
          · subst e; dsimp only; rw [upZ_s]; omega
          · dsimp only; rw [upZ_n e]; exact hoki.2.1 x hx
      · rw [List.length_set] at hj
        rw [List.getElem_set]
        by_cases e : i = j
        · subst e
          rw [if_pos rfl]
          refine ⟨(hg i hi).1, by rw [upZ_s, hgw]; exact hwu.symm, hg2, fun x hx => ?_⟩
          by_cases e : x = s
          · subst e; dsimp only; rw [upZ_s, upZ_s, hgc]
          · dsimp only; rw [upZ_n (by omega), upZ_n e]; exact (hg i hi).2.2.2 x hx
        · rw [if_neg e]
          refine ⟨(hg j hj).1, by rw [upZ_n (Ne.symm e)]; exact (hg j hj).2.1, by rw [hg2n j (Ne.symm e)]; exact (hg j hj).2.2.1, fun x hx => ?_⟩
          rw [upZ_n (by omega)]; exact (hg j hj).2.2.2 x hx
    have hcmp : upZ gw i (gw i + step) i = wt (upZ t[i].2 s (t[i].2 s + step)) := by rw [upZ_s, hgw, hwu]
    refine g_aload_n dX4_raise_68 rfl ?_
    refine z_getf fl_X4_15 dX4_raise_69 m_o rfl ?_
    refine g_iload_n dX4_raise_72 rfl ?_
    refine z_iaload (j := i) dX4_raise_73 m_w (by omega) (by omega) (by omega) ?_
    refine g_iload dX4_raise_74 rfl ?_
    refine z_icmp_le (tgt := 84) dX4_raise_76 (by decide) (by rw [upZ_s]; omega) (by omega) (fun c76 => ?_) (fun c76 => ?_)
    · exact g_return dX4_raise_84 rfl (Nat.le_of_ble_eq_true rfl) (Nat.le_of_ble_eq_true rfl) ⟨rfl, rfl, by unfold grw; rw [if_neg (by omega)]; exact hmd, fr⟩
    · refine g_aload_n dX4_raise_79 rfl ?_
      refine g_iload_n dX4_raise_80 rfl ?_
      refine z_callVV dX4_raise_81 lm_X4_51 lk_X4_halve (Md_halve (i := i) hmd (by rw [List.length_set]; exact hi)) rfl rfl m_o rfl (mkRoom rfl rfl) (Nat.le_of_ble_eq_true rfl) (Nat.le_of_ble_eq_true rfl) (Nat.le_of_ble_eq_true rfl) (fun M r hp => ?_)
      obtain ⟨rfl, hmd2, fr2⟩ := hp
      have fr := fr.tr fr2
      rw [List.getElem_set, if_pos rfl, List.set_set] at hmd2
      exact g_return dX4_raise_84 rfl (Nat.le_of_ble_eq_true rfl) (Nat.le_of_ble_eq_true rfl) ⟨rfl, rfl, by unfold grw; rw [if_pos (by omega)]; exact hmd2, fr⟩
  refine g_aload_n dX4_raise_0 rfl ?_
  refine g_iload_n dX4_raise_1 rfl ?_
  refine z_callVR dX4_raise_2 lm_X4_47 lk_X4_has (Md_has h hi) rfl rfl m_o rfl (mkRoom rfl rfl) (Nat.le_of_ble_eq_true rfl) (Nat.le_of_ble_eq_true rfl) (Nat.le_of_ble_eq_true rfl) ?_
  refine z_if_eq (tgt := 18) dX4_raise_5 (by decide) (by omega) (fun c5 => absurd c5 (by omega)) (fun c5 => ?_)
  refine g_iload_n dX4_raise_8 rfl ?_
  refine z_if_lt (tgt := 18) dX4_raise_9 (by decide) (by omega) (fun c9 => absurd c9 (by omega)) (fun c9 => ?_)
  refine g_iload_n dX4_raise_12 rfl ?_
  refine z_bipush dX4_raise_13 (by decide +kernel) ?_
  refine z_icmp_lt (tgt := 19) dX4_raise_15 (by decide) (by omega) (by omega) (fun c15 => ?_) (fun c15 => absurd c15 (by omega))
  refine g_iload_n dX4_raise_19 rfl ?_
  refine z_bipush dX4_raise_20 (by decide +kernel) ?_
  refine z_imul dX4_raise_22 ?_
  refine g_iload_n dX4_raise_23 rfl ?_
  refine z_iadd dX4_raise_24 ?_
  refine g_istore dX4_raise_25 (Nat.le_of_ble_eq_true rfl) ?_
  refine g_aload_n dX4_raise_27 rfl ?_
  refine z_getf fl_X4_21 dX4_raise_28 m_o rfl ?_
  refine g_iload dX4_raise_31 rfl ?_
  refine z_iaload (j := i * 96 + s) dX4_raise_33 m_c (by omega) (by omega) (by omega) ?_
  refine z_if_ne (tgt := 47) dX4_raise_34 (by decide) (by rw [hgc]; omega) (fun c34 => ?_) (fun c34 => ?_)
  · first
    | exact cont M gn fr m_o m_k m_w m_n m_c (by rw [hku, hgn, if_pos (by omega)]; omega) (fun j _ => rfl)
    | exact cont M _ fr m_o m_k m_w m_n m_c (by rw [upZ_s, hku, hgn, if_neg (by omega)]; omega) (fun j hj => upZ_n hj)
  · refine g_aload_n dX4_raise_37 rfl ?_
    refine z_getf fl_X4_18 dX4_raise_38 m_o rfl ?_
    refine g_iload_n dX4_raise_41 rfl ?_
    refine g_dup2 dX4_raise_42 rfl rfl ?_
    refine z_iaload (j := i) dX4_raise_43 m_n (by omega) (by omega) (by omega) ?_
    refine z_iconst dX4_raise_44 ?_
    refine z_iadd dX4_raise_45 ?_
    refine z_iastore (j := i) dX4_raise_46 m_n (by omega) (by omega) (by omega) (fun M m_n o => ?_)
    have m_o := (o _ (by omega)).trans m_o
    have m_k := (o _ (by omega)).trans m_k
    have m_w := (o _ (by omega)).trans m_w
    have m_c := (o _ (by omega)).trans m_c
    have fr := fr.one o (by omega)
    first
    | exact cont M gn fr m_o m_k m_w m_n m_c (by rw [hku, hgn, if_pos (by omega)]; omega) (fun j _ => rfl)
    | exact cont M _ fr m_o m_k m_w m_n m_c (by rw [upZ_s, hku, hgn, if_neg (by omega)]; omega) (fun j hj => upZ_n hj)
set_option maxHeartbeats 1000000 in
theorem Md_take {M : pM} {z mo m2 : Nat} {t t2 : tbl} (h : Md M mo t) (h2 : Md M m2 t2) (hd : mo + 5 ≤ m2 ∨ m2 + 5 ≤ mo) : CW I_X4_take yX4_take [.ref mo, .ref m2] M z (fun M' r => r = none ∧ Md M' mo t2 ∧ Off M M' mo (mo + 5)) := by
  obtain ⟨gk, gw, gn, gc, m_o, m_k, m_w, m_n, m_c, hlen, hok, hg⟩ := id h
  have fr : Off M M mo (mo + 5) := Off.rf
  obtain ⟨hk, hw, hn, hc, m_p, m_x1, m_x2, m_x3, m_x4, hlen2, hok2, hg2⟩ := id h2
  refine C.intro (pl := [some (.ref mo), some (.ref m2)]) pn_X4 rfl (fun h => absurd h (by decide)) rfl (Nat.le_of_ble_eq_true rfl) rfl ?_
  refine g_aload_n dX4_take_0 rfl ?_
  refine z_iconst dX4_take_1 ?_
  refine g_aload_n dX4_take_2 rfl ?_
  refine z_getf fl_X4_24 dX4_take_3 m_p rfl ?_
  refine z_sipush dX4_take_6 (by decide +kernel) ?_
  refine z_min lj_X4_28 dX4_take_9 ⟨(Nat.le_of_ble_eq_true rfl), (Nat.le_of_ble_eq_true rfl)⟩ (Nat.le_of_ble_eq_true rfl) (Nat.le_of_ble_eq_true rfl) (by omega) (by omega) ?_
  refine z_max lj_X4_34 dX4_take_12 ⟨(Nat.le_of_ble_eq_true rfl), (Nat.le_of_ble_eq_true rfl)⟩ (Nat.le_of_ble_eq_true rfl) (Nat.le_of_ble_eq_true rfl) (by omega) (by omega) ?_
  refine z_putf fl_X4_24 dX4_take_15 m_o rfl (Nat.le_of_ble_eq_true rfl) rfl rfl (fun M m_o o => ?_)
  have e0 : max (0 : Int) (min (t2.length : Int) 250) = (t2.length : Int) := by omega
  have m_o : M mo = some (ob 4 [vI (t2.length : Int), .ref (mo + 1), .ref (mo + 2), .ref (mo + 3), .ref (mo + 4)]) := by rw [m_o, e0]; rfl
  have m_k := (o _ (by omega)).trans m_k
  have m_w := (o _ (by omega)).trans m_w
  have m_n := (o _ (by omega)).trans m_n
  have m_c := (o _ (by omega)).trans m_c
  have m_p := (o _ (by omega)).trans m_p
  have m_x1 := (o _ (by omega)).trans m_x1
  have m_x2 := (o _ (by omega)).trans m_x2
  have m_x3 := (o _ (by omega)).trans m_x3
  have m_x4 := (o _ (by omega)).trans m_x4
  have fr := fr.one o (by omega)
  refine g_aload_n dX4_take_18 rfl ?_
  refine z_getf fl_X4_9 dX4_take_19 m_p rfl ?_
  refine z_iconst dX4_take_22 ?_
  refine g_aload_n dX4_take_23 rfl ?_
  refine z_getf fl_X4_9 dX4_take_24 m_o rfl ?_
  refine z_iconst dX4_take_27 ?_
  refine g_aload_n dX4_take_28 rfl ?_
  refine z_getf fl_X4_24 dX4_take_29 m_o rfl ?_
  refine z_copy (jn := t2.length) lc_X4_37 dX4_take_32 ⟨(Nat.le_of_ble_eq_true rfl), (Nat.le_of_ble_eq_true rfl)⟩ m_x1 m_k (js := 0) (jd := 0) (by omega) (by omega) (by omega) (by omega) (by omega) (by omega) (by omega) (fun M m_k o => ?_)
  have m_o := (o _ (by omega)).trans m_o
  have m_w := (o _ (by omega)).trans m_w
  have m_n := (o _ (by omega)).trans m_n
  have m_c := (o _ (by omega)).trans m_c
  have m_p := (o _ (by omega)).trans m_p
  have m_x1 := (o _ (by omega)).trans m_x1
  have m_x2 := (o _ (by omega)).trans m_x2
  have m_x3 := (o _ (by omega)).trans m_x3
  have m_x4 := (o _ (by omega)).trans m_x4
  have fr := fr.one o (by omega)
  refine g_aload_n dX4_take_35 rfl ?_
  refine z_getf fl_X4_15 dX4_take_36 m_p rfl ?_
  refine z_iconst dX4_take_39 ?_
  refine g_aload_n dX4_take_40 rfl ?_
  refine z_getf fl_X4_15 dX4_take_41 m_o rfl ?_
  refine z_iconst dX4_take_44 ?_
  refine g_aload_n dX4_take_45 rfl ?_
  refine z_getf fl_X4_24 dX4_take_46 m_o rfl ?_
  refine z_copy (jn := t2.length) lc_X4_37 dX4_take_49 ⟨(Nat.le_of_ble_eq_true rfl), (Nat.le_of_ble_eq_true rfl)⟩ m_x2 m_w (js := 0) (jd := 0) (by omega) (by omega) (by omega) (by omega) (by omega) (by omega) (by omega) (fun M m_w o => ?_)
  have m_o := (o _ (by omega)).trans m_o
  have m_k := (o _ (by omega)).trans m_k
  have m_n := (o _ (by omega)).trans m_n
  have m_c := (o _ (by omega)).trans m_c
  have m_p := (o _ (by omega)).trans m_p
  have m_x1 := (o _ (by omega)).trans m_x1
  have m_x2 := (o _ (by omega)).trans m_x2
  have m_x3 := (o _ (by omega)).trans m_x3
  have m_x4 := (o _ (by omega)).trans m_x4
  have fr := fr.one o (by omega)
  refine g_aload_n dX4_take_52 rfl ?_
  refine z_getf fl_X4_18 dX4_take_53 m_p rfl ?_
  refine z_iconst dX4_take_56 ?_
  refine g_aload_n dX4_take_57 rfl ?_
  refine z_getf fl_X4_18 dX4_take_58 m_o rfl ?_
  refine z_iconst dX4_take_61 ?_
  refine g_aload_n dX4_take_62 rfl ?_
  refine z_getf fl_X4_24 dX4_take_63 m_o rfl ?_
  refine z_copy (jn := t2.length) lc_X4_37 dX4_take_66 ⟨(Nat.le_of_ble_eq_true rfl), (Nat.le_of_ble_eq_true rfl)⟩ m_x3 m_n (js := 0) (jd := 0) (by omega) (by omega) (by omega) (by omega) (by omega) (by omega) (by omega) (fun M m_n o => ?_)
  have m_o := (o _ (by omega)).trans m_o
  have m_k := (o _ (by omega)).trans m_k
  have m_w := (o _ (by omega)).trans m_w
  have m_c := (o _ (by omega)).trans m_c
  have m_p := (o _ (by omega)).trans m_p
  have m_x1 := (o _ (by omega)).trans m_x1
  have m_x2 := (o _ (by omega)).trans m_x2
  have m_x3 := (o _ (by omega)).trans m_x3
  have m_x4 := (o _ (by omega)).trans m_x4
  have fr := fr.one o (by omega)
  refine g_aload_n dX4_take_69 rfl ?_
  refine z_getf fl_X4_21 dX4_take_70 m_p rfl ?_
  refine z_iconst dX4_take_73 ?_
  refine g_aload_n dX4_take_74 rfl ?_
  refine z_getf fl_X4_21 dX4_take_75 m_o rfl ?_
  refine z_iconst dX4_take_78 ?_
  refine g_aload_n dX4_take_79 rfl ?_
  refine z_getf fl_X4_24 dX4_take_80 m_o rfl ?_
  refine z_bipush dX4_take_83 (by decide +kernel) ?_
  refine z_imul dX4_take_85 ?_
  refine z_copy (jn := t2.length * 96) lc_X4_37 dX4_take_86 ⟨(Nat.le_of_ble_eq_true rfl), (Nat.le_of_ble_eq_true rfl)⟩ m_x4 m_c (js := 0) (jd := 0) (by omega) (by omega) (by omega) (by omega) (by omega) (by omega) (by omega) (fun M m_c o => ?_)
  have m_o := (o _ (by omega)).trans m_o
  have m_k := (o _ (by omega)).trans m_k
  have m_w := (o _ (by omega)).trans m_w
  have m_n := (o _ (by omega)).trans m_n
  have m_p := (o _ (by omega)).trans m_p
  have m_x1 := (o _ (by omega)).trans m_x1
  have m_x2 := (o _ (by omega)).trans m_x2
  have m_x3 := (o _ (by omega)).trans m_x3
  have m_x4 := (o _ (by omega)).trans m_x4
  have fr := fr.one o (by omega)
  refine g_return dX4_take_89 rfl (Nat.le_of_ble_eq_true rfl) (Nat.le_of_ble_eq_true rfl) ⟨rfl, rfl, ⟨_, _, _, _, m_o, m_k, m_w, m_n, m_c, hlen2, hok2, fun i hi => ?_⟩, fr⟩
  obtain ⟨u1, u2, u3, u4⟩ := hg2 i hi
  unfold cpZ
  refine ⟨?_, ?_, ?_, fun x hx => ?_⟩
  · rw [if_pos (by omega), ← u1]; congr 1; omega
  · rw [if_pos (by omega), ← u2]; congr 1; omega
  · rw [if_pos (by omega), ← u3]; congr 1; omega
  · rw [if_pos (by omega), ← u4 x hx]; congr 1; omega
