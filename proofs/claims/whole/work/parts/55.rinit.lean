/-! the reference's constructor -/
theorem VP_0 (v : Int) {g : Nat → Int} (e0 : g 0 = (max 0 (min v 3))) (e2 : g 2 = 1) (e3 : g 3 = 200) (e : ∀ x, x ≠ 0 → x ≠ 2 → x ≠ 3 → g x = 0) : VP g ((max 0 (min v 3)), 0, 1, 200, [], [], [], 0, []) := by
  refine ⟨⟨e0, e 1 (by omega) (by omega) (by omega), e2, e3⟩, ⟨e 4 (by omega) (by omega) (by omega), Nat.zero_le _, fun i hi => absurd hi (Nat.not_lt_zero _)⟩, ⟨e 5 (by omega) (by omega) (by omega), e 6 (by omega) (by omega) (by omega), e 7 (by omega) (by omega) (by omega), e 8 (by omega) (by omega) (by omega), e 9 (by omega) (by omega) (by omega)⟩, ⟨Nat.zero_le _, Nat.zero_le _, Nat.zero_le _⟩, fun k hk => absurd hk (Nat.not_lt_zero _), fun k hk => absurd hk (Nat.not_lt_zero _), fun k hk => absurd hk (Nat.not_lt_zero _)⟩
set_option maxHeartbeats 1000000 in
theorem n_X9 {M : pM} {b : Nat} {v : Int} (hv : -2147483648 ≤ v ∧ v < 2147483648) (m_b : M b = some (ob 9 [.null, .null, .null, vI 0, .null, vI 0, vL 0, vL 0, .null, vI 0, vI 0, .null, vI 0, vI 0, vI 0, vI 0, .null, vI 0, vL 0, vI 0, .null, vI 0])) : CN I_X9_init yX9_init b [vI v] 8 160000 M (fun M => RM M b (((max 0 (min v 3)), 0, 1, 200, [], [], [], 0, []), [], [])) := by
  have fr : Off M M b (b + 1 + 8) := Off.rf
  refine C.intro (pl := [some (.ref b), some (vI v)]) pn_X9 rfl (fun _ => rfl) rfl (Nat.le_of_ble_eq_true rfl) rfl ?_
  refine g_aload_n dX9_init_0 rfl ?_
  refine g_objInit lo_X9_1 dX9_init_1 ⟨(Nat.le_of_ble_eq_true rfl), (Nat.le_of_ble_eq_true rfl)⟩ ?_
  refine g_aload_n dX9_init_4 rfl ?_
  refine z_sipush dX9_init_5 (by decide +kernel) ?_
  refine z_newI (N := 25700) dX9_init_8 rfl (Nat.le_of_ble_eq_true rfl) (Nat.le_of_ble_eq_true rfl) (Nat.le_of_ble_eq_true rfl) (fun M _ m_v o => ?_)
  have oN : Off _ M (b + 1) (b + 2) := fun x hx => o x (by omega)
  have m_b := (oN _ (by omega)).trans m_b
  have fr := fr.tr (oN.wd (by omega) (by omega))
  refine z_putF fl_X9_7 ff_X9_7 dX9_init_10 m_b rfl rfl rfl (Nat.le_of_ble_eq_true rfl) rfl rfl (fun M m_b o => ?_)
  have m_v := (o _ (by omega)).trans m_v
  have oN : Off _ M (b + 0) (b + 1) := fun x hx => o x (by omega)
  have fr := fr.tr (oN.wd (by omega) (by omega))
  refine g_aload_n dX9_init_13 rfl ?_
  refine z_sipush dX9_init_14 (by decide +kernel) ?_
  refine z_newI (N := 25700) dX9_init_17 rfl (Nat.le_of_ble_eq_true rfl) (Nat.le_of_ble_eq_true rfl) (Nat.le_of_ble_eq_true rfl) (fun M _ m_as o => ?_)
  have oN : Off _ M (b + 2) (b + 3) := fun x hx => o x (by omega)
  have m_b := (oN _ (by omega)).trans m_b
  have m_v := (oN _ (by omega)).trans m_v
  have fr := fr.tr (oN.wd (by omega) (by omega))
  refine z_putF fl_X9_13 ff_X9_13 dX9_init_19 m_b rfl rfl rfl (Nat.le_of_ble_eq_true rfl) rfl rfl (fun M m_b o => ?_)
  have m_v := (o _ (by omega)).trans m_v
  have m_as := (o _ (by omega)).trans m_as
  have oN : Off _ M (b + 0) (b + 1) := fun x hx => o x (by omega)
  have fr := fr.tr (oN.wd (by omega) (by omega))
  refine g_aload_n dX9_init_22 rfl ?_
  refine z_ldc (102800) dX9_init_23 kc_X9_16 rfl ?_
  refine z_newI (N := 102800) dX9_init_25 rfl (Nat.le_of_ble_eq_true rfl) (Nat.le_of_ble_eq_true rfl) (Nat.le_of_ble_eq_true rfl) (fun M _ m_pa o => ?_)
  have oN : Off _ M (b + 3) (b + 4) := fun x hx => o x (by omega)
  have m_b := (oN _ (by omega)).trans m_b
  have m_v := (oN _ (by omega)).trans m_v
  have m_as := (oN _ (by omega)).trans m_as
  have fr := fr.tr (oN.wd (by omega) (by omega))
  refine z_putF fl_X9_17 ff_X9_17 dX9_init_27 m_b rfl rfl rfl (Nat.le_of_ble_eq_true rfl) rfl rfl (fun M m_b o => ?_)
  have m_v := (o _ (by omega)).trans m_v
  have m_as := (o _ (by omega)).trans m_as
  have m_pa := (o _ (by omega)).trans m_pa
  have oN : Off _ M (b + 0) (b + 1) := fun x hx => o x (by omega)
  have fr := fr.tr (oN.wd (by omega) (by omega))
  refine g_aload_n dX9_init_30 rfl ?_
  refine z_sipush dX9_init_31 (by decide +kernel) ?_
  refine z_newI (N := 200) dX9_init_34 rfl (Nat.le_of_ble_eq_true rfl) (Nat.le_of_ble_eq_true rfl) (Nat.le_of_ble_eq_true rfl) (fun M _ m_tx o => ?_)
  have oN : Off _ M (b + 4) (b + 5) := fun x hx => o x (by omega)
  have m_b := (oN _ (by omega)).trans m_b
  have m_v := (oN _ (by omega)).trans m_v
  have m_as := (oN _ (by omega)).trans m_as
  have m_pa := (oN _ (by omega)).trans m_pa
  have fr := fr.tr (oN.wd (by omega) (by omega))
  refine z_putF fl_X9_20 ff_X9_20 dX9_init_36 m_b rfl rfl rfl (Nat.le_of_ble_eq_true rfl) rfl rfl (fun M m_b o => ?_)
  have m_v := (o _ (by omega)).trans m_v
  have m_as := (o _ (by omega)).trans m_as
  have m_pa := (o _ (by omega)).trans m_pa
  have m_tx := (o _ (by omega)).trans m_tx
  have oN : Off _ M (b + 0) (b + 1) := fun x hx => o x (by omega)
  have fr := fr.tr (oN.wd (by omega) (by omega))
  refine g_aload_n dX9_init_39 rfl ?_
  refine z_sipush dX9_init_40 (by decide +kernel) ?_
  refine z_newI (N := 2000) dX9_init_43 rfl (Nat.le_of_ble_eq_true rfl) (Nat.le_of_ble_eq_true rfl) (Nat.le_of_ble_eq_true rfl) (fun M _ m_ma o => ?_)
  have oN : Off _ M (b + 5) (b + 6) := fun x hx => o x (by omega)
  have m_b := (oN _ (by omega)).trans m_b
  have m_v := (oN _ (by omega)).trans m_v
  have m_as := (oN _ (by omega)).trans m_as
  have m_pa := (oN _ (by omega)).trans m_pa
  have m_tx := (oN _ (by omega)).trans m_tx
  have fr := fr.tr (oN.wd (by omega) (by omega))
  refine z_putF fl_X9_23 ff_X9_23 dX9_init_45 m_b rfl rfl rfl (Nat.le_of_ble_eq_true rfl) rfl rfl (fun M m_b o => ?_)
  have m_v := (o _ (by omega)).trans m_v
  have m_as := (o _ (by omega)).trans m_as
  have m_pa := (o _ (by omega)).trans m_pa
  have m_tx := (o _ (by omega)).trans m_tx
  have m_ma := (o _ (by omega)).trans m_ma
  have oN : Off _ M (b + 0) (b + 1) := fun x hx => o x (by omega)
  have fr := fr.tr (oN.wd (by omega) (by omega))
  refine g_aload_n dX9_init_48 rfl ?_
  refine z_bipush dX9_init_49 (by decide +kernel) ?_
  refine z_newZ (N := 96) dX9_init_51 rfl (Nat.le_of_ble_eq_true rfl) (Nat.le_of_ble_eq_true rfl) (Nat.le_of_ble_eq_true rfl) (fun M _ m_go o => ?_)
  have oN : Off _ M (b + 6) (b + 7) := fun x hx => o x (by omega)
  have m_b := (oN _ (by omega)).trans m_b
  have m_v := (oN _ (by omega)).trans m_v
  have m_as := (oN _ (by omega)).trans m_as
  have m_pa := (oN _ (by omega)).trans m_pa
  have m_tx := (oN _ (by omega)).trans m_tx
  have m_ma := (oN _ (by omega)).trans m_ma
  have fr := fr.tr (oN.wd (by omega) (by omega))
  refine z_putF fl_X9_26 ff_X9_26 dX9_init_53 m_b rfl rfl rfl (Nat.le_of_ble_eq_true rfl) rfl rfl (fun M m_b o => ?_)
  have m_v := (o _ (by omega)).trans m_v
  have m_as := (o _ (by omega)).trans m_as
  have m_pa := (o _ (by omega)).trans m_pa
  have m_tx := (o _ (by omega)).trans m_tx
  have m_ma := (o _ (by omega)).trans m_ma
  have m_go := (o _ (by omega)).trans m_go
  have oN : Off _ M (b + 0) (b + 1) := fun x hx => o x (by omega)
  have fr := fr.tr (oN.wd (by omega) (by omega))
  refine g_aload_n dX9_init_56 rfl ?_
  refine z_sipush dX9_init_57 (by decide +kernel) ?_
  refine z_newI (N := 804) dX9_init_60 rfl (Nat.le_of_ble_eq_true rfl) (Nat.le_of_ble_eq_true rfl) (Nat.le_of_ble_eq_true rfl) (fun M _ m_to o => ?_)
  have oN : Off _ M (b + 7) (b + 8) := fun x hx => o x (by omega)
  have m_b := (oN _ (by omega)).trans m_b
  have m_v := (oN _ (by omega)).trans m_v
  have m_as := (oN _ (by omega)).trans m_as
  have m_pa := (oN _ (by omega)).trans m_pa
  have m_tx := (oN _ (by omega)).trans m_tx
  have m_ma := (oN _ (by omega)).trans m_ma
  have m_go := (oN _ (by omega)).trans m_go
  have fr := fr.tr (oN.wd (by omega) (by omega))
  refine z_putF fl_X9_30 ff_X9_30 dX9_init_62 m_b rfl rfl rfl (Nat.le_of_ble_eq_true rfl) rfl rfl (fun M m_b o => ?_)
  have m_v := (o _ (by omega)).trans m_v
  have m_as := (o _ (by omega)).trans m_as
  have m_pa := (o _ (by omega)).trans m_pa
  have m_tx := (o _ (by omega)).trans m_tx
  have m_ma := (o _ (by omega)).trans m_ma
  have m_go := (o _ (by omega)).trans m_go
  have m_to := (o _ (by omega)).trans m_to
  have oN : Off _ M (b + 0) (b + 1) := fun x hx => o x (by omega)
  have fr := fr.tr (oN.wd (by omega) (by omega))
  refine g_aload_n dX9_init_65 rfl ?_
  refine z_sipush dX9_init_66 (by decide +kernel) ?_
  refine z_newI (N := 201) dX9_init_69 rfl (Nat.le_of_ble_eq_true rfl) (Nat.le_of_ble_eq_true rfl) (Nat.le_of_ble_eq_true rfl) (fun M _ m_fo o => ?_)
  have oN : Off _ M (b + 8) (b + 9) := fun x hx => o x (by omega)
  have m_b := (oN _ (by omega)).trans m_b
  have m_v := (oN _ (by omega)).trans m_v
  have m_as := (oN _ (by omega)).trans m_as
  have m_pa := (oN _ (by omega)).trans m_pa
  have m_tx := (oN _ (by omega)).trans m_tx
  have m_ma := (oN _ (by omega)).trans m_ma
  have m_go := (oN _ (by omega)).trans m_go
  have m_to := (oN _ (by omega)).trans m_to
  have fr := fr.tr (oN.wd (by omega) (by omega))
  refine z_putF fl_X9_33 ff_X9_33 dX9_init_71 m_b rfl rfl rfl (Nat.le_of_ble_eq_true rfl) rfl rfl (fun M m_b o => ?_)
  have m_v := (o _ (by omega)).trans m_v
  have m_as := (o _ (by omega)).trans m_as
  have m_pa := (o _ (by omega)).trans m_pa
  have m_tx := (o _ (by omega)).trans m_tx
  have m_ma := (o _ (by omega)).trans m_ma
  have m_go := (o _ (by omega)).trans m_go
  have m_to := (o _ (by omega)).trans m_to
  have m_fo := (o _ (by omega)).trans m_fo
  have oN : Off _ M (b + 0) (b + 1) := fun x hx => o x (by omega)
  have fr := fr.tr (oN.wd (by omega) (by omega))
  refine g_aload_n dX9_init_74 rfl ?_
  refine z_getf fl_X9_7 dX9_init_75 m_b rfl ?_
  refine z_iconst dX9_init_78 ?_
  refine g_iload_n dX9_init_79 rfl ?_
  refine z_if_ge (tgt := 87) dX9_init_80 (by decide) (by omega) (fun c80 => ?_) (fun c80 => ?_)
  · refine g_iload_n dX9_init_87 rfl ?_
    refine z_iconst dX9_init_88 ?_
    refine z_icmp_le (tgt := 96) dX9_init_89 (by decide) (by omega) (by omega) (fun c89 => ?_) (fun c89 => ?_)
    · refine g_iload_n dX9_init_96 rfl ?_
      refine z_iastore (j := 0) dX9_init_97 m_v (by omega) (by omega) (by omega) (fun M m_v o => ?_)
      have m_b := (o _ (by omega)).trans m_b
      have m_as := (o _ (by omega)).trans m_as
      have m_pa := (o _ (by omega)).trans m_pa
      have m_tx := (o _ (by omega)).trans m_tx
      have m_ma := (o _ (by omega)).trans m_ma
      have m_go := (o _ (by omega)).trans m_go
      have m_to := (o _ (by omega)).trans m_to
      have m_fo := (o _ (by omega)).trans m_fo
      have oN : Off _ M (b + 1) (b + 2) := fun x hx => o x (by omega)
      have fr := fr.tr (oN.wd (by omega) (by omega))
      refine g_aload_n dX9_init_98 rfl ?_
      refine z_getf fl_X9_7 dX9_init_99 m_b rfl ?_
      refine z_iconst dX9_init_102 ?_
      refine z_iconst dX9_init_103 ?_
      refine z_iastore (j := 2) dX9_init_104 m_v (by omega) (by omega) (by omega) (fun M m_v o => ?_)
      have m_b := (o _ (by omega)).trans m_b
      have m_as := (o _ (by omega)).trans m_as
      have m_pa := (o _ (by omega)).trans m_pa
      have m_tx := (o _ (by omega)).trans m_tx
      have m_ma := (o _ (by omega)).trans m_ma
      have m_go := (o _ (by omega)).trans m_go
      have m_to := (o _ (by omega)).trans m_to
      have m_fo := (o _ (by omega)).trans m_fo
      have oN : Off _ M (b + 1) (b + 2) := fun x hx => o x (by omega)
      have fr := fr.tr (oN.wd (by omega) (by omega))
      refine g_aload_n dX9_init_105 rfl ?_
      refine z_getf fl_X9_7 dX9_init_106 m_b rfl ?_
      refine z_iconst dX9_init_109 ?_
      refine z_sipush dX9_init_110 (by decide +kernel) ?_
      refine z_iastore (j := 3) dX9_init_113 m_v (by omega) (by omega) (by omega) (fun M m_v o => ?_)
      have m_b := (o _ (by omega)).trans m_b
      have m_as := (o _ (by omega)).trans m_as
      have m_pa := (o _ (by omega)).trans m_pa
      have m_tx := (o _ (by omega)).trans m_tx
      have m_ma := (o _ (by omega)).trans m_ma
      have m_go := (o _ (by omega)).trans m_go
      have m_to := (o _ (by omega)).trans m_to
      have m_fo := (o _ (by omega)).trans m_fo
      have oN : Off _ M (b + 1) (b + 2) := fun x hx => o x (by omega)
      have fr := fr.tr (oN.wd (by omega) (by omega))
      exact g_return dX9_init_114 rfl (Nat.le_of_ble_eq_true rfl) (Nat.le_of_ble_eq_true rfl) ⟨rfl, rfl, ⟨_, fun _ => 0, (0, 0, [], 0), 0, 0, 0, 0, 0, 0, 0, 0, fun _ => false, m_b, m_v, VP_0 v (by rw [upZ_n (by omega), upZ_n (by omega), upZ_s]; omega) (by rw [upZ_n (by omega), upZ_s]) (by rw [upZ_s]) (fun x h0 h2 h3 => by rw [upZ_n h3, upZ_n h2, upZ_n h0]), okG_0 v, ⟨_, m_as⟩, m_pa, ⟨Nat.zero_le _, fun i hi => absurd hi (Nat.not_lt_zero _)⟩, ⟨_, m_tx, Nat.zero_le _, by decide, fun i hi => absurd hi (Nat.not_lt_zero _)⟩, fun x hx => absurd hx List.not_mem_nil, ⟨_, m_ma, Nat.zero_le _, fun i hi => absurd hi (Nat.not_lt_zero _)⟩, ⟨_, m_go, fun s hs => rfl⟩, ⟨_, m_to⟩, ⟨_, m_fo⟩⟩, fr⟩
    · refine z_iconst dX9_init_92 ?_
      refine g_goto (tgt := 97) dX9_init_93 (by decide) ?_
      refine z_iastore (j := 0) dX9_init_97 m_v (by omega) (by omega) (by omega) (fun M m_v o => ?_)
      have m_b := (o _ (by omega)).trans m_b
      have m_as := (o _ (by omega)).trans m_as
      have m_pa := (o _ (by omega)).trans m_pa
      have m_tx := (o _ (by omega)).trans m_tx
      have m_ma := (o _ (by omega)).trans m_ma
      have m_go := (o _ (by omega)).trans m_go
      have m_to := (o _ (by omega)).trans m_to
      have m_fo := (o _ (by omega)).trans m_fo
      have oN : Off _ M (b + 1) (b + 2) := fun x hx => o x (by omega)
      have fr := fr.tr (oN.wd (by omega) (by omega))
      refine g_aload_n dX9_init_98 rfl ?_
      refine z_getf fl_X9_7 dX9_init_99 m_b rfl ?_
      refine z_iconst dX9_init_102 ?_
      refine z_iconst dX9_init_103 ?_
      refine z_iastore (j := 2) dX9_init_104 m_v (by omega) (by omega) (by omega) (fun M m_v o => ?_)
      have m_b := (o _ (by omega)).trans m_b
      have m_as := (o _ (by omega)).trans m_as
      have m_pa := (o _ (by omega)).trans m_pa
      have m_tx := (o _ (by omega)).trans m_tx
      have m_ma := (o _ (by omega)).trans m_ma
      have m_go := (o _ (by omega)).trans m_go
      have m_to := (o _ (by omega)).trans m_to
      have m_fo := (o _ (by omega)).trans m_fo
      have oN : Off _ M (b + 1) (b + 2) := fun x hx => o x (by omega)
      have fr := fr.tr (oN.wd (by omega) (by omega))
      refine g_aload_n dX9_init_105 rfl ?_
      refine z_getf fl_X9_7 dX9_init_106 m_b rfl ?_
      refine z_iconst dX9_init_109 ?_
      refine z_sipush dX9_init_110 (by decide +kernel) ?_
      refine z_iastore (j := 3) dX9_init_113 m_v (by omega) (by omega) (by omega) (fun M m_v o => ?_)
      have m_b := (o _ (by omega)).trans m_b
      have m_as := (o _ (by omega)).trans m_as
      have m_pa := (o _ (by omega)).trans m_pa
      have m_tx := (o _ (by omega)).trans m_tx
      have m_ma := (o _ (by omega)).trans m_ma
      have m_go := (o _ (by omega)).trans m_go
      have m_to := (o _ (by omega)).trans m_to
      have m_fo := (o _ (by omega)).trans m_fo
      have oN : Off _ M (b + 1) (b + 2) := fun x hx => o x (by omega)
      have fr := fr.tr (oN.wd (by omega) (by omega))
      exact g_return dX9_init_114 rfl (Nat.le_of_ble_eq_true rfl) (Nat.le_of_ble_eq_true rfl) ⟨rfl, rfl, ⟨_, fun _ => 0, (0, 0, [], 0), 0, 0, 0, 0, 0, 0, 0, 0, fun _ => false, m_b, m_v, VP_0 v (by rw [upZ_n (by omega), upZ_n (by omega), upZ_s]; omega) (by rw [upZ_n (by omega), upZ_s]) (by rw [upZ_s]) (fun x h0 h2 h3 => by rw [upZ_n h3, upZ_n h2, upZ_n h0]), okG_0 v, ⟨_, m_as⟩, m_pa, ⟨Nat.zero_le _, fun i hi => absurd hi (Nat.not_lt_zero _)⟩, ⟨_, m_tx, Nat.zero_le _, by decide, fun i hi => absurd hi (Nat.not_lt_zero _)⟩, fun x hx => absurd hx List.not_mem_nil, ⟨_, m_ma, Nat.zero_le _, fun i hi => absurd hi (Nat.not_lt_zero _)⟩, ⟨_, m_go, fun s hs => rfl⟩, ⟨_, m_to⟩, ⟨_, m_fo⟩⟩, fr⟩
  · refine z_iconst dX9_init_83 ?_
    refine g_goto (tgt := 97) dX9_init_84 (by decide) ?_
    refine z_iastore (j := 0) dX9_init_97 m_v (by omega) (by omega) (by omega) (fun M m_v o => ?_)
    have m_b := (o _ (by omega)).trans m_b
    have m_as := (o _ (by omega)).trans m_as
    have m_pa := (o _ (by omega)).trans m_pa
    have m_tx := (o _ (by omega)).trans m_tx
    have m_ma := (o _ (by omega)).trans m_ma
    have m_go := (o _ (by omega)).trans m_go
    have m_to := (o _ (by omega)).trans m_to
    have m_fo := (o _ (by omega)).trans m_fo
    have oN : Off _ M (b + 1) (b + 2) := fun x hx => o x (by omega)
    have fr := fr.tr (oN.wd (by omega) (by omega))
    refine g_aload_n dX9_init_98 rfl ?_
    refine z_getf fl_X9_7 dX9_init_99 m_b rfl ?_
    refine z_iconst dX9_init_102 ?_
    refine z_iconst dX9_init_103 ?_
    refine z_iastore (j := 2) dX9_init_104 m_v (by omega) (by omega) (by omega) (fun M m_v o => ?_)
    have m_b := (o _ (by omega)).trans m_b
    have m_as := (o _ (by omega)).trans m_as
    have m_pa := (o _ (by omega)).trans m_pa
    have m_tx := (o _ (by omega)).trans m_tx
    have m_ma := (o _ (by omega)).trans m_ma
    have m_go := (o _ (by omega)).trans m_go
    have m_to := (o _ (by omega)).trans m_to
    have m_fo := (o _ (by omega)).trans m_fo
    have oN : Off _ M (b + 1) (b + 2) := fun x hx => o x (by omega)
    have fr := fr.tr (oN.wd (by omega) (by omega))
    refine g_aload_n dX9_init_105 rfl ?_
    refine z_getf fl_X9_7 dX9_init_106 m_b rfl ?_
    refine z_iconst dX9_init_109 ?_
    refine z_sipush dX9_init_110 (by decide +kernel) ?_
    refine z_iastore (j := 3) dX9_init_113 m_v (by omega) (by omega) (by omega) (fun M m_v o => ?_)
    have m_b := (o _ (by omega)).trans m_b
    have m_as := (o _ (by omega)).trans m_as
    have m_pa := (o _ (by omega)).trans m_pa
    have m_tx := (o _ (by omega)).trans m_tx
    have m_ma := (o _ (by omega)).trans m_ma
    have m_go := (o _ (by omega)).trans m_go
    have m_to := (o _ (by omega)).trans m_to
    have m_fo := (o _ (by omega)).trans m_fo
    have oN : Off _ M (b + 1) (b + 2) := fun x hx => o x (by omega)
    have fr := fr.tr (oN.wd (by omega) (by omega))
    exact g_return dX9_init_114 rfl (Nat.le_of_ble_eq_true rfl) (Nat.le_of_ble_eq_true rfl) ⟨rfl, rfl, ⟨_, fun _ => 0, (0, 0, [], 0), 0, 0, 0, 0, 0, 0, 0, 0, fun _ => false, m_b, m_v, VP_0 v (by rw [upZ_n (by omega), upZ_n (by omega), upZ_s]; omega) (by rw [upZ_n (by omega), upZ_s]) (by rw [upZ_s]) (fun x h0 h2 h3 => by rw [upZ_n h3, upZ_n h2, upZ_n h0]), okG_0 v, ⟨_, m_as⟩, m_pa, ⟨Nat.zero_le _, fun i hi => absurd hi (Nat.not_lt_zero _)⟩, ⟨_, m_tx, Nat.zero_le _, by decide, fun i hi => absurd hi (Nat.not_lt_zero _)⟩, fun x hx => absurd hx List.not_mem_nil, ⟨_, m_ma, Nat.zero_le _, fun i hi => absurd hi (Nat.not_lt_zero _)⟩, ⟨_, m_go, fun s hs => rfl⟩, ⟨_, m_to⟩, ⟨_, m_fo⟩⟩, fr⟩
