/-! the constructors -/
def CN (I : MI) (y : MethodName) (b : Nat) (args : List Value) (mc ms : Nat) (M : pM) (P : pM → Prop) : Prop := C I y (.ref b :: args) M (b + 1) mc ms (fun M' z' r => z' = b + 1 + mc ∧ r = none ∧ P M' ∧ Off M M' b (b + 1 + mc))
section GN
variable {I : MI} {mc ms : Nat} {Q : pM → Nat → Option Value → Prop} {k n pc : Nat} {pl : List (Option Value)} {st : List Value} {M : pM} {z : Nat}
theorem z_callN {J : MI} {y : MethodName} {idx nA b mc' ms' : Nat} {As rest : List Value} {P : pM → Prop} (hd : decode I.1 pc = .ok (.invokespecial idx, 3)) (lm : LkM I.2.2.2.1 idx y) (lk : LkI y J nA) (hC : CN J y b As mc' ms' M P) (hst : st = As.reverse ++ .ref b :: rest) (hn : As.length = nA) (hroom : pRoom I J) (hW : (rest.map fun v => v.category).sum ≤ 8) (hk : k + mc' ≤ mc) (hs : n + ms' ≤ ms) (hz : z = b + 1) (K : ∀ M', P M' → Off M M' b (b + 1 + mc') → G I mc ms Q (k + mc') (n + ms') (pc + 3) pl rest M' (b + 1 + mc')) : G I mc ms Q k n pc pl st M z := by
  subst hz
  exact g_callI hd lm lk hC hst hn hroom hW hk hs (fun M' z' r h => by obtain ⟨rfl, rfl, h1, h2⟩ := h; exact K M' h1 h2)
end GN
theorem df_X0 : ∀ j, j < 2 → defaultValue (tyX0 j) = vp_V [.null, vI 0] j := fun j hj => by
  match j, hj with
  | 0, _ => rfl
  | 1, _ => rfl
theorem df_X1 : ∀ j, j < 4 → defaultValue (tyX1 j) = vp_V [.null, vI 0, vL 0, vL 0] j := fun j hj => by
  match j, hj with
  | 0, _ => rfl
  | 1, _ => rfl
  | 2, _ => rfl
  | 3, _ => rfl
theorem df_X2 : ∀ j, j < 4 → defaultValue (tyX2 j) = vp_V [vL 0, vL 0, .null, vI 0] j := fun j hj => by
  match j, hj with
  | 0, _ => rfl
  | 1, _ => rfl
  | 2, _ => rfl
  | 3, _ => rfl
theorem df_X3 : ∀ j, j < 5 → defaultValue (tyX3 j) = vp_V [.null, .null, .null, .null, vI 0] j := fun j hj => by
  match j, hj with
  | 0, _ => rfl
  | 1, _ => rfl
  | 2, _ => rfl
  | 3, _ => rfl
  | 4, _ => rfl
theorem df_X4 : ∀ j, j < 5 → defaultValue (tyX4 j) = vp_V [vI 0, .null, .null, .null, .null] j := fun j hj => by
  match j, hj with
  | 0, _ => rfl
  | 1, _ => rfl
  | 2, _ => rfl
  | 3, _ => rfl
  | 4, _ => rfl
theorem df_X5 : ∀ j, j < 4 → defaultValue (tyX5 j) = vp_V [.null, .null, .null, vI 0] j := fun j hj => by
  match j, hj with
  | 0, _ => rfl
  | 1, _ => rfl
  | 2, _ => rfl
  | 3, _ => rfl
theorem df_X6 : ∀ j, j < 2 → defaultValue (tyX6 j) = vp_V [.null, vI 0] j := fun j hj => by
  match j, hj with
  | 0, _ => rfl
  | 1, _ => rfl
theorem df_X7 : ∀ j, j < 8 → defaultValue (tyX7 j) = vp_V [vI 0, vI 0, vI 0, vI 0, .null, .null, .null, .null] j := fun j hj => by
  match j, hj with
  | 0, _ => rfl
  | 1, _ => rfl
  | 2, _ => rfl
  | 3, _ => rfl
  | 4, _ => rfl
  | 5, _ => rfl
  | 6, _ => rfl
  | 7, _ => rfl
theorem df_X8 : ∀ j, j < 9 → defaultValue (tyX8 j) = vp_V [.null, .null, .null, vI 0, .null, .null, .null, .null, .null] j := fun j hj => by
  match j, hj with
  | 0, _ => rfl
  | 1, _ => rfl
  | 2, _ => rfl
  | 3, _ => rfl
  | 4, _ => rfl
  | 5, _ => rfl
  | 6, _ => rfl
  | 7, _ => rfl
  | 8, _ => rfl
set_option maxHeartbeats 1000000 in
theorem n_X6 {M : pM} {b : Nat} {v : Int} {N : Nat} (hv : v = (N : Int)) (hN : N ≤ 100000) (m_b : M b = some (ob 6 [.null, vI 0])) : CN I_X6_init yX6_init b [vI v] 1 N M (fun M => Rw M b N []) := by
  have fr : Off M M b (b + 1 + 1) := Off.rf
  refine C.intro (pl := [some (.ref b), some (vI v)]) pn_X6 rfl (fun _ => rfl) rfl (Nat.le_of_ble_eq_true rfl) rfl ?_
  refine g_aload_n dX6_init_0 rfl ?_
  refine g_objInit lo_X6_1 dX6_init_1 ⟨(Nat.le_of_ble_eq_true rfl), (Nat.le_of_ble_eq_true rfl)⟩ ?_
  refine g_aload_n dX6_init_4 rfl ?_
  refine z_iconst dX6_init_5 ?_
  refine g_iload_n dX6_init_6 rfl ?_
  refine z_max lj_X6_7 dX6_init_7 ⟨(Nat.le_of_ble_eq_true rfl), (Nat.le_of_ble_eq_true rfl)⟩ (Nat.le_of_ble_eq_true rfl) (Nat.le_of_ble_eq_true rfl) (by omega) (by omega) ?_
  refine z_newI (N := N) dX6_init_10 (by omega) (by omega) (by omega) (by omega) (fun M _ m_g o => ?_)
  have oN : Off _ M (b + 1) (b + 2) := fun x hx => o x (by omega)
  have m_b := (oN _ (by omega)).trans m_b
  have fr := fr.tr (oN.wd (by omega) (by omega))
  refine z_putF fl_X6_13 ff_X6_13 dX6_init_12 m_b rfl rfl rfl (Nat.le_of_ble_eq_true rfl) rfl rfl (fun M m_b o => ?_)
  have m_g := (o _ (by omega)).trans m_g
  have oN : Off _ M b (b + 1) := fun x hx => o x (by omega)
  have fr := fr.tr (oN.wd (by omega) (by omega))
  refine g_aload_n dX6_init_15 rfl ?_
  refine z_iconst dX6_init_16 ?_
  refine z_putf fl_X6_19 dX6_init_17 m_b rfl (Nat.le_of_ble_eq_true rfl) rfl rfl (fun M m_b o => ?_)
  have m_g := (o _ (by omega)).trans m_g
  have oN : Off _ M b (b + 1) := fun x hx => o x (by omega)
  have fr := fr.tr (oN.wd (by omega) (by omega))
  exact g_return dX6_init_20 rfl (by omega) (by omega) ⟨rfl, rfl, ⟨_, m_b, m_g, Nat.zero_le _, by omega, fun i hi => absurd hi (Nat.not_lt_zero _)⟩, fr⟩
set_option maxHeartbeats 1000000 in
theorem n_X0 {M : pM} {b : Nat} (m_b : M b = some (ob 0 [.null, vI 0])) : CN I_X0_init yX0_init b [] 1 96 M (fun M => Ca M b (fun _ => false)) := by
  have fr : Off M M b (b + 1 + 1) := Off.rf
  refine C.intro (pl := [some (.ref b)]) pn_X0 rfl (fun _ => rfl) rfl (Nat.le_of_ble_eq_true rfl) rfl ?_
  refine g_aload_n dX0_init_0 rfl ?_
  refine g_objInit lo_X0_3 dX0_init_1 ⟨(Nat.le_of_ble_eq_true rfl), (Nat.le_of_ble_eq_true rfl)⟩ ?_
  refine g_aload_n dX0_init_4 rfl ?_
  refine z_bipush dX0_init_5 (by decide +kernel) ?_
  refine z_newZ (N := 96) dX0_init_7 rfl (by omega) (by omega) (by omega) (fun M _ m_g o => ?_)
  have oN : Off _ M (b + 1) (b + 2) := fun x hx => o x (by omega)
  have m_b := (oN _ (by omega)).trans m_b
  have fr := fr.tr (oN.wd (by omega) (by omega))
  refine z_putF fl_X0_9 ff_X0_9 dX0_init_9 m_b rfl rfl rfl (Nat.le_of_ble_eq_true rfl) rfl rfl (fun M m_b o => ?_)
  have m_g := (o _ (by omega)).trans m_g
  have oN : Off _ M b (b + 1) := fun x hx => o x (by omega)
  have fr := fr.tr (oN.wd (by omega) (by omega))
  refine g_aload_n dX0_init_12 rfl ?_
  refine z_iconst dX0_init_13 ?_
  refine z_putf fl_X0_15 dX0_init_14 m_b rfl (Nat.le_of_ble_eq_true rfl) rfl rfl (fun M m_b o => ?_)
  have m_g := (o _ (by omega)).trans m_g
  have oN : Off _ M b (b + 1) := fun x hx => o x (by omega)
  have fr := fr.tr (oN.wd (by omega) (by omega))
  exact g_return dX0_init_17 rfl (Nat.le_of_ble_eq_true rfl) (Nat.le_of_ble_eq_true rfl) ⟨rfl, rfl, ⟨1, fun _ => 0, m_b, m_g, Or.inr rfl, fun _ _ _ => rfl, fun _ _ => rfl⟩, fr⟩
set_option maxHeartbeats 1000000 in
theorem n_X1 {M : pM} {b : Nat} (m_b : M b = some (ob 1 [.null, vI 0, vL 0, vL 0])) : CN I_X1_init yX1_init b [] 0 0 M (fun M => ∃ w0 w1 w2 w3, M b = some (ob 1 [w0, w1, w2, w3])) := by
  have fr : Off M M b (b + 1 + 0) := Off.rf
  refine C.intro (pl := [some (.ref b)]) pn_X1 rfl (fun _ => rfl) rfl (Nat.le_of_ble_eq_true rfl) rfl ?_
  refine g_aload_n dX1_init_0 rfl ?_
  refine g_objInit lo_X1_3 dX1_init_1 ⟨(Nat.le_of_ble_eq_true rfl), (Nat.le_of_ble_eq_true rfl)⟩ ?_
  exact g_return dX1_init_4 rfl (Nat.le_of_ble_eq_true rfl) (Nat.le_of_ble_eq_true rfl) ⟨rfl, rfl, ⟨_, _, _, _, m_b⟩, fr⟩
set_option maxHeartbeats 1000000 in
theorem n_X2 {M : pM} {b : Nat} (m_b : M b = some (ob 2 [vL 0, vL 0, .null, vI 0])) : CN I_X2_init yX2_init b [] 2 4030 M (fun M => En M b 0 0 [] 0) := by
  have fr : Off M M b (b + 1 + 2) := Off.rf
  refine C.intro (pl := [some (.ref b)]) pn_X2 rfl (fun _ => rfl) rfl (Nat.le_of_ble_eq_true rfl) rfl ?_
  refine g_aload_n dX2_init_0 rfl ?_
  refine g_objInit lo_X2_3 dX2_init_1 ⟨(Nat.le_of_ble_eq_true rfl), (Nat.le_of_ble_eq_true rfl)⟩ ?_
  refine g_aload_n dX2_init_4 rfl ?_
  refine z_new cis_6 ln_X2_9 dX2_init_5 df_X6 (Nat.le_of_ble_eq_true rfl) (Nat.le_of_ble_eq_true rfl) (fun M _ m_r o => ?_)
  have oN : Off _ M (b + 1) (b + 2) := fun x hx => o x (by omega)
  have m_b := (oN _ (by omega)).trans m_b
  have fr := fr.tr (oN.wd (by omega) (by omega))
  refine g_dup dX2_init_8 rfl ?_
  refine z_sipush dX2_init_9 (by decide +kernel) ?_
  refine z_callN dX2_init_12 lm_X2_11 lk_X6_init (n_X6 (N := 4028) rfl (by omega) (by assumption)) rfl rfl (mkRoom rfl rfl) (Nat.le_of_ble_eq_true rfl) (Nat.le_of_ble_eq_true rfl) (Nat.le_of_ble_eq_true rfl) rfl (fun M w1 oN => ?_)
  have m_b := (oN _ (by omega)).trans m_b
  have fr := fr.tr (oN.wd (by omega) (by omega))
  refine z_putF fl_X2_14 ff_X2_14 dX2_init_15 m_b rfl rfl rfl (Nat.le_of_ble_eq_true rfl) rfl rfl (fun M m_b o => ?_)
  have oN : Off _ M b (b + 1) := fun x hx => o x (by omega)
  have w1 := w1.off oN (by omega)
  have fr := fr.tr (oN.wd (by omega) (by omega))
  exact g_return dX2_init_18 rfl (Nat.le_of_ble_eq_true rfl) (Nat.le_of_ble_eq_true rfl) ⟨rfl, rfl, ⟨m_b, w1⟩, fr⟩
set_option maxHeartbeats 1000000 in
theorem n_X3 {M : pM} {b : Nat} (m_b : M b = some (ob 3 [.null, .null, .null, .null, vI 0])) : CN I_X3_init yX3_init b [] 8 812 M (fun M => Lg M b [] 0) := by
  have fr : Off M M b (b + 1 + 8) := Off.rf
  refine C.intro (pl := [some (.ref b)]) pn_X3 rfl (fun _ => rfl) rfl (Nat.le_of_ble_eq_true rfl) rfl ?_
  refine g_aload_n dX3_init_0 rfl ?_
  refine g_objInit lo_X3_3 dX3_init_1 ⟨(Nat.le_of_ble_eq_true rfl), (Nat.le_of_ble_eq_true rfl)⟩ ?_
  refine g_aload_n dX3_init_4 rfl ?_
  refine z_new cis_6 ln_X3_9 dX3_init_5 df_X6 (Nat.le_of_ble_eq_true rfl) (Nat.le_of_ble_eq_true rfl) (fun M _ m_r o => ?_)
  have oN : Off _ M (b + 1) (b + 2) := fun x hx => o x (by omega)
  have m_b := (oN _ (by omega)).trans m_b
  have fr := fr.tr (oN.wd (by omega) (by omega))
  refine g_dup dX3_init_8 rfl ?_
  refine z_sipush dX3_init_9 (by decide +kernel) ?_
  refine z_callN dX3_init_12 lm_X3_11 lk_X6_init (n_X6 (N := 201) rfl (by omega) (by assumption)) rfl rfl (mkRoom rfl rfl) (Nat.le_of_ble_eq_true rfl) (Nat.le_of_ble_eq_true rfl) (Nat.le_of_ble_eq_true rfl) rfl (fun M w1 oN => ?_)
  have m_b := (oN _ (by omega)).trans m_b
  have fr := fr.tr (oN.wd (by omega) (by omega))
  refine z_putF fl_X3_14 ff_X3_14 dX3_init_15 m_b rfl rfl rfl (Nat.le_of_ble_eq_true rfl) rfl rfl (fun M m_b o => ?_)
  have oN : Off _ M b (b + 1) := fun x hx => o x (by omega)
  have w1 := w1.off oN (by omega)
  have fr := fr.tr (oN.wd (by omega) (by omega))
  refine g_aload_n dX3_init_18 rfl ?_
  refine z_new cis_6 ln_X3_9 dX3_init_19 df_X6 (Nat.le_of_ble_eq_true rfl) (Nat.le_of_ble_eq_true rfl) (fun M _ m_r o => ?_)
  have oN : Off _ M (b + 3) (b + 4) := fun x hx => o x (by omega)
  have m_b := (oN _ (by omega)).trans m_b
  have w1 := w1.off oN (by omega)
  have fr := fr.tr (oN.wd (by omega) (by omega))
  refine g_dup dX3_init_22 rfl ?_
  refine z_sipush dX3_init_23 (by decide +kernel) ?_
  refine z_callN dX3_init_26 lm_X3_11 lk_X6_init (n_X6 (N := 201) rfl (by omega) (by assumption)) rfl rfl (mkRoom rfl rfl) (Nat.le_of_ble_eq_true rfl) (Nat.le_of_ble_eq_true rfl) (Nat.le_of_ble_eq_true rfl) rfl (fun M w2 oN => ?_)
  have m_b := (oN _ (by omega)).trans m_b
  have w1 := w1.off oN (by omega)
  have fr := fr.tr (oN.wd (by omega) (by omega))
  refine z_putF fl_X3_20 ff_X3_20 dX3_init_29 m_b rfl rfl rfl (Nat.le_of_ble_eq_true rfl) rfl rfl (fun M m_b o => ?_)
  have oN : Off _ M b (b + 1) := fun x hx => o x (by omega)
  have w1 := w1.off oN (by omega)
  have w2 := w2.off oN (by omega)
  have fr := fr.tr (oN.wd (by omega) (by omega))
  refine g_aload_n dX3_init_32 rfl ?_
  refine z_new cis_6 ln_X3_9 dX3_init_33 df_X6 (Nat.le_of_ble_eq_true rfl) (Nat.le_of_ble_eq_true rfl) (fun M _ m_r o => ?_)
  have oN : Off _ M (b + 5) (b + 6) := fun x hx => o x (by omega)
  have m_b := (oN _ (by omega)).trans m_b
  have w1 := w1.off oN (by omega)
  have w2 := w2.off oN (by omega)
  have fr := fr.tr (oN.wd (by omega) (by omega))
  refine g_dup dX3_init_36 rfl ?_
  refine z_sipush dX3_init_37 (by decide +kernel) ?_
  refine z_callN dX3_init_40 lm_X3_11 lk_X6_init (n_X6 (N := 201) rfl (by omega) (by assumption)) rfl rfl (mkRoom rfl rfl) (Nat.le_of_ble_eq_true rfl) (Nat.le_of_ble_eq_true rfl) (Nat.le_of_ble_eq_true rfl) rfl (fun M w3 oN => ?_)
  have m_b := (oN _ (by omega)).trans m_b
  have w1 := w1.off oN (by omega)
  have w2 := w2.off oN (by omega)
  have fr := fr.tr (oN.wd (by omega) (by omega))
  refine z_putF fl_X3_23 ff_X3_23 dX3_init_43 m_b rfl rfl rfl (Nat.le_of_ble_eq_true rfl) rfl rfl (fun M m_b o => ?_)
  have oN : Off _ M b (b + 1) := fun x hx => o x (by omega)
  have w1 := w1.off oN (by omega)
  have w2 := w2.off oN (by omega)
  have w3 := w3.off oN (by omega)
  have fr := fr.tr (oN.wd (by omega) (by omega))
  refine g_aload_n dX3_init_46 rfl ?_
  refine z_new cis_6 ln_X3_9 dX3_init_47 df_X6 (Nat.le_of_ble_eq_true rfl) (Nat.le_of_ble_eq_true rfl) (fun M _ m_r o => ?_)
  have oN : Off _ M (b + 7) (b + 8) := fun x hx => o x (by omega)
  have m_b := (oN _ (by omega)).trans m_b
  have w1 := w1.off oN (by omega)
  have w2 := w2.off oN (by omega)
  have w3 := w3.off oN (by omega)
  have fr := fr.tr (oN.wd (by omega) (by omega))
  refine g_dup dX3_init_50 rfl ?_
  refine z_sipush dX3_init_51 (by decide +kernel) ?_
  refine z_callN dX3_init_54 lm_X3_11 lk_X6_init (n_X6 (N := 201) rfl (by omega) (by assumption)) rfl rfl (mkRoom rfl rfl) (Nat.le_of_ble_eq_true rfl) (Nat.le_of_ble_eq_true rfl) (Nat.le_of_ble_eq_true rfl) rfl (fun M w4 oN => ?_)
  have m_b := (oN _ (by omega)).trans m_b
  have w1 := w1.off oN (by omega)
  have w2 := w2.off oN (by omega)
  have w3 := w3.off oN (by omega)
  have fr := fr.tr (oN.wd (by omega) (by omega))
  refine z_putF fl_X3_26 ff_X3_26 dX3_init_57 m_b rfl rfl rfl (Nat.le_of_ble_eq_true rfl) rfl rfl (fun M m_b o => ?_)
  have oN : Off _ M b (b + 1) := fun x hx => o x (by omega)
  have w1 := w1.off oN (by omega)
  have w2 := w2.off oN (by omega)
  have w3 := w3.off oN (by omega)
  have w4 := w4.off oN (by omega)
  have fr := fr.tr (oN.wd (by omega) (by omega))
  exact g_return dX3_init_60 rfl (Nat.le_of_ble_eq_true rfl) (Nat.le_of_ble_eq_true rfl) ⟨rfl, rfl, ⟨m_b, w1, w2, w3, w4⟩, fr⟩
set_option maxHeartbeats 1000000 in
theorem n_X4 {M : pM} {b : Nat} (m_b : M b = some (ob 4 [vI 0, .null, .null, .null, .null])) : CN I_X4_init yX4_init b [] 4 24750 M (fun M => Md M b []) := by
  have fr : Off M M b (b + 1 + 4) := Off.rf
  refine C.intro (pl := [some (.ref b)]) pn_X4 rfl (fun _ => rfl) rfl (Nat.le_of_ble_eq_true rfl) rfl ?_
  refine g_aload_n dX4_init_0 rfl ?_
  refine g_objInit lo_X4_3 dX4_init_1 ⟨(Nat.le_of_ble_eq_true rfl), (Nat.le_of_ble_eq_true rfl)⟩ ?_
  refine g_aload_n dX4_init_4 rfl ?_
  refine z_sipush dX4_init_5 (by decide +kernel) ?_
  refine z_newI (N := 250) dX4_init_8 rfl (by omega) (by omega) (by omega) (fun M _ m_g1 o => ?_)
  have oN : Off _ M (b + 1) (b + 2) := fun x hx => o x (by omega)
  have m_b := (oN _ (by omega)).trans m_b
  have fr := fr.tr (oN.wd (by omega) (by omega))
  refine z_putF fl_X4_9 ff_X4_9 dX4_init_10 m_b rfl rfl rfl (Nat.le_of_ble_eq_true rfl) rfl rfl (fun M m_b o => ?_)
  have m_g1 := (o _ (by omega)).trans m_g1
  have oN : Off _ M b (b + 1) := fun x hx => o x (by omega)
  have fr := fr.tr (oN.wd (by omega) (by omega))
  refine g_aload_n dX4_init_13 rfl ?_
  refine z_sipush dX4_init_14 (by decide +kernel) ?_
  refine z_newI (N := 250) dX4_init_17 rfl (by omega) (by omega) (by omega) (fun M _ m_g2 o => ?_)
  have oN : Off _ M (b + 2) (b + 3) := fun x hx => o x (by omega)
  have m_b := (oN _ (by omega)).trans m_b
  have m_g1 := (oN _ (by omega)).trans m_g1
  have fr := fr.tr (oN.wd (by omega) (by omega))
  refine z_putF fl_X4_15 ff_X4_15 dX4_init_19 m_b rfl rfl rfl (Nat.le_of_ble_eq_true rfl) rfl rfl (fun M m_b o => ?_)
  have m_g1 := (o _ (by omega)).trans m_g1
  have m_g2 := (o _ (by omega)).trans m_g2
  have oN : Off _ M b (b + 1) := fun x hx => o x (by omega)
  have fr := fr.tr (oN.wd (by omega) (by omega))
  refine g_aload_n dX4_init_22 rfl ?_
  refine z_sipush dX4_init_23 (by decide +kernel) ?_
  refine z_newI (N := 250) dX4_init_26 rfl (by omega) (by omega) (by omega) (fun M _ m_g3 o => ?_)
  have oN : Off _ M (b + 3) (b + 4) := fun x hx => o x (by omega)
  have m_b := (oN _ (by omega)).trans m_b
  have m_g1 := (oN _ (by omega)).trans m_g1
  have m_g2 := (oN _ (by omega)).trans m_g2
  have fr := fr.tr (oN.wd (by omega) (by omega))
  refine z_putF fl_X4_18 ff_X4_18 dX4_init_28 m_b rfl rfl rfl (Nat.le_of_ble_eq_true rfl) rfl rfl (fun M m_b o => ?_)
  have m_g1 := (o _ (by omega)).trans m_g1
  have m_g2 := (o _ (by omega)).trans m_g2
  have m_g3 := (o _ (by omega)).trans m_g3
  have oN : Off _ M b (b + 1) := fun x hx => o x (by omega)
  have fr := fr.tr (oN.wd (by omega) (by omega))
  refine g_aload_n dX4_init_31 rfl ?_
  refine z_sipush dX4_init_32 (by decide +kernel) ?_
  refine z_newI (N := 24000) dX4_init_35 rfl (by omega) (by omega) (by omega) (fun M _ m_g4 o => ?_)
  have oN : Off _ M (b + 4) (b + 5) := fun x hx => o x (by omega)
  have m_b := (oN _ (by omega)).trans m_b
  have m_g1 := (oN _ (by omega)).trans m_g1
  have m_g2 := (oN _ (by omega)).trans m_g2
  have m_g3 := (oN _ (by omega)).trans m_g3
  have fr := fr.tr (oN.wd (by omega) (by omega))
  refine z_putF fl_X4_21 ff_X4_21 dX4_init_37 m_b rfl rfl rfl (Nat.le_of_ble_eq_true rfl) rfl rfl (fun M m_b o => ?_)
  have m_g1 := (o _ (by omega)).trans m_g1
  have m_g2 := (o _ (by omega)).trans m_g2
  have m_g3 := (o _ (by omega)).trans m_g3
  have m_g4 := (o _ (by omega)).trans m_g4
  have oN : Off _ M b (b + 1) := fun x hx => o x (by omega)
  have fr := fr.tr (oN.wd (by omega) (by omega))
  exact g_return dX4_init_40 rfl (Nat.le_of_ble_eq_true rfl) (Nat.le_of_ble_eq_true rfl) ⟨rfl, rfl, ⟨_, _, _, _, m_b, m_g1, m_g2, m_g3, m_g4, Nat.zero_le _, fun _ h => absurd h List.not_mem_nil, fun i hi => absurd hi (Nat.not_lt_zero _)⟩, fr⟩
set_option maxHeartbeats 1000000 in
theorem n_X5 {M : pM} {b : Nat} (m_b : M b = some (ob 5 [.null, .null, .null, vI 0])) : CN I_X5_init yX5_init b [] 6 21 M (fun M => Rt M b [] 0) := by
  have fr : Off M M b (b + 1 + 6) := Off.rf
  refine C.intro (pl := [some (.ref b)]) pn_X5 rfl (fun _ => rfl) rfl (Nat.le_of_ble_eq_true rfl) rfl ?_
  refine g_aload_n dX5_init_0 rfl ?_
  refine g_objInit lo_X5_3 dX5_init_1 ⟨(Nat.le_of_ble_eq_true rfl), (Nat.le_of_ble_eq_true rfl)⟩ ?_
  refine g_aload_n dX5_init_4 rfl ?_
  refine z_new cis_6 ln_X5_9 dX5_init_5 df_X6 (Nat.le_of_ble_eq_true rfl) (Nat.le_of_ble_eq_true rfl) (fun M _ m_r o => ?_)
  have oN : Off _ M (b + 1) (b + 2) := fun x hx => o x (by omega)
  have m_b := (oN _ (by omega)).trans m_b
  have fr := fr.tr (oN.wd (by omega) (by omega))
  refine g_dup dX5_init_8 rfl ?_
  refine z_iconst dX5_init_9 ?_
  refine z_callN dX5_init_10 lm_X5_11 lk_X6_init (n_X6 (N := 5) rfl (by omega) (by assumption)) rfl rfl (mkRoom rfl rfl) (Nat.le_of_ble_eq_true rfl) (Nat.le_of_ble_eq_true rfl) (Nat.le_of_ble_eq_true rfl) rfl (fun M w1 oN => ?_)
  have m_b := (oN _ (by omega)).trans m_b
  have fr := fr.tr (oN.wd (by omega) (by omega))
  refine z_putF fl_X5_14 ff_X5_14 dX5_init_13 m_b rfl rfl rfl (Nat.le_of_ble_eq_true rfl) rfl rfl (fun M m_b o => ?_)
  have oN : Off _ M b (b + 1) := fun x hx => o x (by omega)
  have w1 := w1.off oN (by omega)
  have fr := fr.tr (oN.wd (by omega) (by omega))
  refine g_aload_n dX5_init_16 rfl ?_
  refine z_new cis_6 ln_X5_9 dX5_init_17 df_X6 (Nat.le_of_ble_eq_true rfl) (Nat.le_of_ble_eq_true rfl) (fun M _ m_r o => ?_)
  have oN : Off _ M (b + 3) (b + 4) := fun x hx => o x (by omega)
  have m_b := (oN _ (by omega)).trans m_b
  have w1 := w1.off oN (by omega)
  have fr := fr.tr (oN.wd (by omega) (by omega))
  refine g_dup dX5_init_20 rfl ?_
  refine z_iconst dX5_init_21 ?_
  refine z_callN dX5_init_22 lm_X5_11 lk_X6_init (n_X6 (N := 5) rfl (by omega) (by assumption)) rfl rfl (mkRoom rfl rfl) (Nat.le_of_ble_eq_true rfl) (Nat.le_of_ble_eq_true rfl) (Nat.le_of_ble_eq_true rfl) rfl (fun M w2 oN => ?_)
  have m_b := (oN _ (by omega)).trans m_b
  have w1 := w1.off oN (by omega)
  have fr := fr.tr (oN.wd (by omega) (by omega))
  refine z_putF fl_X5_20 ff_X5_20 dX5_init_25 m_b rfl rfl rfl (Nat.le_of_ble_eq_true rfl) rfl rfl (fun M m_b o => ?_)
  have oN : Off _ M b (b + 1) := fun x hx => o x (by omega)
  have w1 := w1.off oN (by omega)
  have w2 := w2.off oN (by omega)
  have fr := fr.tr (oN.wd (by omega) (by omega))
  refine g_aload_n dX5_init_28 rfl ?_
  refine z_new cis_6 ln_X5_9 dX5_init_29 df_X6 (Nat.le_of_ble_eq_true rfl) (Nat.le_of_ble_eq_true rfl) (fun M _ m_r o => ?_)
  have oN : Off _ M (b + 5) (b + 6) := fun x hx => o x (by omega)
  have m_b := (oN _ (by omega)).trans m_b
  have w1 := w1.off oN (by omega)
  have w2 := w2.off oN (by omega)
  have fr := fr.tr (oN.wd (by omega) (by omega))
  refine g_dup dX5_init_32 rfl ?_
  refine z_iconst dX5_init_33 ?_
  refine z_callN dX5_init_34 lm_X5_11 lk_X6_init (n_X6 (N := 5) rfl (by omega) (by assumption)) rfl rfl (mkRoom rfl rfl) (Nat.le_of_ble_eq_true rfl) (Nat.le_of_ble_eq_true rfl) (Nat.le_of_ble_eq_true rfl) rfl (fun M w3 oN => ?_)
  have m_b := (oN _ (by omega)).trans m_b
  have w1 := w1.off oN (by omega)
  have w2 := w2.off oN (by omega)
  have fr := fr.tr (oN.wd (by omega) (by omega))
  refine z_putF fl_X5_23 ff_X5_23 dX5_init_37 m_b rfl rfl rfl (Nat.le_of_ble_eq_true rfl) rfl rfl (fun M m_b o => ?_)
  have oN : Off _ M b (b + 1) := fun x hx => o x (by omega)
  have w1 := w1.off oN (by omega)
  have w2 := w2.off oN (by omega)
  have w3 := w3.off oN (by omega)
  have fr := fr.tr (oN.wd (by omega) (by omega))
  exact g_return dX5_init_40 rfl (Nat.le_of_ble_eq_true rfl) (Nat.le_of_ble_eq_true rfl) ⟨rfl, rfl, ⟨m_b, w1, w2, w3⟩, fr⟩
set_option maxHeartbeats 1000000 in
theorem n_X7 {M : pM} {b : Nat} (m_b : M b = some (ob 7 [vI 0, vI 0, vI 0, vI 0, .null, .null, .null, .null])) : CN I_X7_init yX7_init b [] 18 26176 M (fun M => Stt M b 0 0 0 0 [] [] [] 0 []) := by
  have fr : Off M M b (b + 1 + 18) := Off.rf
  refine C.intro (pl := [some (.ref b)]) pn_X7 rfl (fun _ => rfl) rfl (Nat.le_of_ble_eq_true rfl) rfl ?_
  refine g_aload_n dX7_init_0 rfl ?_
  refine g_objInit lo_X7_3 dX7_init_1 ⟨(Nat.le_of_ble_eq_true rfl), (Nat.le_of_ble_eq_true rfl)⟩ ?_
  refine g_aload_n dX7_init_4 rfl ?_
  refine z_new cis_4 ln_X7_9 dX7_init_5 df_X4 (Nat.le_of_ble_eq_true rfl) (Nat.le_of_ble_eq_true rfl) (fun M _ m_r o => ?_)
  have oN : Off _ M (b + 1) (b + 2) := fun x hx => o x (by omega)
  have m_b := (oN _ (by omega)).trans m_b
  have fr := fr.tr (oN.wd (by omega) (by omega))
  refine g_dup dX7_init_8 rfl ?_
  refine z_callN dX7_init_9 lm_X7_11 lk_X4_init (n_X4 (by assumption)) rfl rfl (mkRoom rfl rfl) (Nat.le_of_ble_eq_true rfl) (Nat.le_of_ble_eq_true rfl) (Nat.le_of_ble_eq_true rfl) rfl (fun M w1 oN => ?_)
  have m_b := (oN _ (by omega)).trans m_b
  have fr := fr.tr (oN.wd (by omega) (by omega))
  refine z_putF fl_X7_12 ff_X7_12 dX7_init_12 m_b rfl rfl rfl (Nat.le_of_ble_eq_true rfl) rfl rfl (fun M m_b o => ?_)
  have oN : Off _ M b (b + 1) := fun x hx => o x (by omega)
  have w1 := w1.off oN (by omega)
  have fr := fr.tr (oN.wd (by omega) (by omega))
  refine g_aload_n dX7_init_15 rfl ?_
  refine z_new cis_6 ln_X7_18 dX7_init_16 df_X6 (Nat.le_of_ble_eq_true rfl) (Nat.le_of_ble_eq_true rfl) (fun M _ m_r o => ?_)
  have oN : Off _ M (b + 6) (b + 7) := fun x hx => o x (by omega)
  have m_b := (oN _ (by omega)).trans m_b
  have w1 := w1.off oN (by omega)
  have fr := fr.tr (oN.wd (by omega) (by omega))
  refine g_dup dX7_init_19 rfl ?_
  refine z_sipush dX7_init_20 (by decide +kernel) ?_
  refine z_callN dX7_init_23 lm_X7_20 lk_X6_init (n_X6 (N := 400) rfl (by omega) (by assumption)) rfl rfl (mkRoom rfl rfl) (Nat.le_of_ble_eq_true rfl) (Nat.le_of_ble_eq_true rfl) (Nat.le_of_ble_eq_true rfl) rfl (fun M w2 oN => ?_)
  have m_b := (oN _ (by omega)).trans m_b
  have w1 := w1.off oN (by omega)
  have fr := fr.tr (oN.wd (by omega) (by omega))
  refine z_putF fl_X7_23 ff_X7_23 dX7_init_26 m_b rfl rfl rfl (Nat.le_of_ble_eq_true rfl) rfl rfl (fun M m_b o => ?_)
  have oN : Off _ M b (b + 1) := fun x hx => o x (by omega)
  have w1 := w1.off oN (by omega)
  have w2 := w2.off oN (by omega)
  have fr := fr.tr (oN.wd (by omega) (by omega))
  refine g_aload_n dX7_init_29 rfl ?_
  refine z_new cis_3 ln_X7_27 dX7_init_30 df_X3 (Nat.le_of_ble_eq_true rfl) (Nat.le_of_ble_eq_true rfl) (fun M _ m_r o => ?_)
  have oN : Off _ M (b + 8) (b + 9) := fun x hx => o x (by omega)
  have m_b := (oN _ (by omega)).trans m_b
  have w1 := w1.off oN (by omega)
  have w2 := w2.off oN (by omega)
  have fr := fr.tr (oN.wd (by omega) (by omega))
  refine g_dup dX7_init_33 rfl ?_
  refine z_callN dX7_init_34 lm_X7_29 lk_X3_init (n_X3 (by assumption)) rfl rfl (mkRoom rfl rfl) (Nat.le_of_ble_eq_true rfl) (Nat.le_of_ble_eq_true rfl) (Nat.le_of_ble_eq_true rfl) rfl (fun M w3 oN => ?_)
  have m_b := (oN _ (by omega)).trans m_b
  have w1 := w1.off oN (by omega)
  have w2 := w2.off oN (by omega)
  have fr := fr.tr (oN.wd (by omega) (by omega))
  refine z_putF fl_X7_30 ff_X7_30 dX7_init_37 m_b rfl rfl rfl (Nat.le_of_ble_eq_true rfl) rfl rfl (fun M m_b o => ?_)
  have oN : Off _ M b (b + 1) := fun x hx => o x (by omega)
  have w1 := w1.off oN (by omega)
  have w2 := w2.off oN (by omega)
  have w3 := w3.off oN (by omega)
  have fr := fr.tr (oN.wd (by omega) (by omega))
  refine g_aload_n dX7_init_40 rfl ?_
  refine z_new cis_6 ln_X7_18 dX7_init_41 df_X6 (Nat.le_of_ble_eq_true rfl) (Nat.le_of_ble_eq_true rfl) (fun M _ m_r o => ?_)
  have oN : Off _ M (b + 17) (b + 18) := fun x hx => o x (by omega)
  have m_b := (oN _ (by omega)).trans m_b
  have w1 := w1.off oN (by omega)
  have w2 := w2.off oN (by omega)
  have w3 := w3.off oN (by omega)
  have fr := fr.tr (oN.wd (by omega) (by omega))
  refine g_dup dX7_init_44 rfl ?_
  refine z_sipush dX7_init_45 (by decide +kernel) ?_
  refine z_callN dX7_init_48 lm_X7_20 lk_X6_init (n_X6 (N := 200) rfl (by omega) (by assumption)) rfl rfl (mkRoom rfl rfl) (Nat.le_of_ble_eq_true rfl) (Nat.le_of_ble_eq_true rfl) (Nat.le_of_ble_eq_true rfl) rfl (fun M w4 oN => ?_)
  have m_b := (oN _ (by omega)).trans m_b
  have w1 := w1.off oN (by omega)
  have w2 := w2.off oN (by omega)
  have w3 := w3.off oN (by omega)
  have fr := fr.tr (oN.wd (by omega) (by omega))
  refine z_putF fl_X7_34 ff_X7_34 dX7_init_51 m_b rfl rfl rfl (Nat.le_of_ble_eq_true rfl) rfl rfl (fun M m_b o => ?_)
  have oN : Off _ M b (b + 1) := fun x hx => o x (by omega)
  have w1 := w1.off oN (by omega)
  have w2 := w2.off oN (by omega)
  have w3 := w3.off oN (by omega)
  have w4 := w4.off oN (by omega)
  have fr := fr.tr (oN.wd (by omega) (by omega))
  exact g_return dX7_init_54 rfl (Nat.le_of_ble_eq_true rfl) (Nat.le_of_ble_eq_true rfl) ⟨rfl, rfl, ⟨m_b, w1, w2, w3, w4⟩, fr⟩
theorem okG_0 (v : Int) : okG (max 0 (min v 3), 0, 1, 200, [], [], [], 0, []) := by
  refine ⟨⟨?_, Or.inl rfl, ?_, ?_⟩, okT_nil, fun _ h => absurd h List.not_mem_nil, fun _ h => absurd h List.not_mem_nil, ?_⟩
  · show 0 ≤ max 0 (min v 3) ∧ max 0 (min v 3) ≤ 3
    omega
  · show (1 : Int) ≤ 1 ∧ (1 : Int) ≤ 10
    omega
  · show (20 : Int) ≤ 200 ∧ (200 : Int) ≤ 1000
    omega
  · show (0 : Int) ≤ 0 ∧ (0 : Int) ≤ 5000
    omega
set_option maxHeartbeats 1000000 in
theorem n_X8 {M : pM} {b : Nat} {v : Int} (hv : -2147483648 ≤ v ∧ v < 2147483648) (m_b : M b = some (ob 8 [.null, .null, .null, vI 0, .null, .null, .null, .null, .null])) : CN I_X8_init yX8_init b [vI v] 130 200000 M (fun M => CC M b ((max 0 (min v 3), 0, 1, 200, [], [], [], 0, []), [], [])) := by
  have fr : Off M M b (b + 1 + 130) := Off.rf
  refine C.intro (pl := [some (.ref b), some (vI v), none]) pn_X8 rfl (fun _ => rfl) rfl (Nat.le_of_ble_eq_true rfl) rfl ?_
  refine g_aload_n dX8_init_0 rfl ?_
  refine g_objInit lo_X8_3 dX8_init_1 ⟨(Nat.le_of_ble_eq_true rfl), (Nat.le_of_ble_eq_true rfl)⟩ ?_
  refine g_aload_n dX8_init_4 rfl ?_
  refine z_new cis_7 ln_X8_9 dX8_init_5 df_X7 (Nat.le_of_ble_eq_true rfl) (Nat.le_of_ble_eq_true rfl) (fun M _ m_n1 o => ?_)
  have oN : Off _ M (b + 1) (b + 2) := fun x hx => o x (by omega)
  have m_b := (oN _ (by omega)).trans m_b
  have fr := fr.tr (oN.wd (by omega) (by omega))
  refine g_dup dX8_init_8 rfl ?_
  refine z_callN dX8_init_9 lm_X8_11 lk_X7_init (n_X7 (by assumption)) rfl rfl (mkRoom rfl rfl) (Nat.le_of_ble_eq_true rfl) (Nat.le_of_ble_eq_true rfl) (Nat.le_of_ble_eq_true rfl) rfl (fun M s1 oN => ?_)
  have m_b := (oN _ (by omega)).trans m_b
  have fr := fr.tr (oN.wd (by omega) (by omega))
  refine z_putF fl_X8_12 ff_X8_12 dX8_init_12 m_b rfl rfl rfl (Nat.le_of_ble_eq_true rfl) rfl rfl (fun M m_b o => ?_)
  have oN : Off _ M (b + 0) (b + 1) := fun x hx => o x (by omega)
  have s1 := s1.off oN (by omega)
  have fr := fr.tr (oN.wd (by omega) (by omega))
  refine g_aload_n dX8_init_15 rfl ?_
  refine z_new cis_7 ln_X8_9 dX8_init_16 df_X7 (Nat.le_of_ble_eq_true rfl) (Nat.le_of_ble_eq_true rfl) (fun M _ m_n2 o => ?_)
  have oN : Off _ M (b + 20) (b + 21) := fun x hx => o x (by omega)
  have m_b := (oN _ (by omega)).trans m_b
  have s1 := s1.off oN (by omega)
  have fr := fr.tr (oN.wd (by omega) (by omega))
  refine g_dup dX8_init_19 rfl ?_
  refine z_callN dX8_init_20 lm_X8_11 lk_X7_init (n_X7 (by assumption)) rfl rfl (mkRoom rfl rfl) (Nat.le_of_ble_eq_true rfl) (Nat.le_of_ble_eq_true rfl) (Nat.le_of_ble_eq_true rfl) rfl (fun M s2 oN => ?_)
  have m_b := (oN _ (by omega)).trans m_b
  have s1 := s1.off oN (by omega)
  have fr := fr.tr (oN.wd (by omega) (by omega))
  refine z_putF fl_X8_16 ff_X8_16 dX8_init_23 m_b rfl rfl rfl (Nat.le_of_ble_eq_true rfl) rfl rfl (fun M m_b o => ?_)
  have oN : Off _ M (b + 0) (b + 1) := fun x hx => o x (by omega)
  have s1 := s1.off oN (by omega)
  have s2 := s2.off oN (by omega)
  have fr := fr.tr (oN.wd (by omega) (by omega))
  refine g_aload_n dX8_init_26 rfl ?_
  refine z_iconst dX8_init_27 ?_
  refine z_newQ (N := 4) la_X8_9 dX8_init_28 rfl (by omega) (Nat.le_of_ble_eq_true rfl) (Nat.le_of_ble_eq_true rfl) (fun M _ m_pa o => ?_)
  have oN : Off _ M (b + 39) (b + 40) := fun x hx => o x (by omega)
  have m_b := (oN _ (by omega)).trans m_b
  have s1 := s1.off oN (by omega)
  have s2 := s2.off oN (by omega)
  have fr := fr.tr (oN.wd (by omega) (by omega))
  refine z_putF fl_X8_19 ff_X8_19 dX8_init_31 m_b rfl rfl rfl (Nat.le_of_ble_eq_true rfl) rfl rfl (fun M m_b o => ?_)
  have m_pa := (o _ (by omega)).trans m_pa
  have oN : Off _ M (b + 0) (b + 1) := fun x hx => o x (by omega)
  have s1 := s1.off oN (by omega)
  have s2 := s2.off oN (by omega)
  have fr := fr.tr (oN.wd (by omega) (by omega))
  refine z_iconst dX8_init_34 ?_
  refine g_istore_n dX8_init_35 rfl (Nat.le_of_ble_eq_true rfl) ?_
  refine g_iload_n dX8_init_36 rfl ?_
  refine g_aload_n dX8_init_37 rfl ?_
  refine z_getf fl_X8_19 dX8_init_38 m_b rfl ?_
  refine z_alenQ dX8_init_41 m_pa ?_
  refine z_icmp_ge (tgt := 64) dX8_init_42 (by decide) (by omega) (by omega) (fun c42 => absurd c42 (by omega)) (fun c42 => ?_)
  refine g_aload_n dX8_init_45 rfl ?_
  refine z_getf fl_X8_19 dX8_init_46 m_b rfl ?_
  refine g_iload_n dX8_init_49 rfl ?_
  refine z_new cis_7 ln_X8_9 dX8_init_50 df_X7 (Nat.le_of_ble_eq_true rfl) (Nat.le_of_ble_eq_true rfl) (fun M _ m_q1 o => ?_)
  have oN : Off _ M (b + 40) (b + 41) := fun x hx => o x (by omega)
  have m_b := (oN _ (by omega)).trans m_b
  have m_pa := (oN _ (by omega)).trans m_pa
  have s1 := s1.off oN (by omega)
  have s2 := s2.off oN (by omega)
  have fr := fr.tr (oN.wd (by omega) (by omega))
  refine g_dup dX8_init_53 rfl ?_
  refine z_callN dX8_init_54 lm_X8_11 lk_X7_init (n_X7 (by assumption)) rfl rfl (mkRoom rfl rfl) (Nat.le_of_ble_eq_true rfl) (Nat.le_of_ble_eq_true rfl) (Nat.le_of_ble_eq_true rfl) rfl (fun M t1 oN => ?_)
  have m_b := (oN _ (by omega)).trans m_b
  have m_pa := (oN _ (by omega)).trans m_pa
  have s1 := s1.off oN (by omega)
  have s2 := s2.off oN (by omega)
  have fr := fr.tr (oN.wd (by omega) (by omega))
  have m_q1 := t1.1
  refine z_aastore (j := 0) dX8_init_57 m_pa m_q1 (by omega) (by omega) (by omega) (fun M m_pa o => ?_)
  have m_b := (o _ (by omega)).trans m_b
  have m_q1 := (o _ (by omega)).trans m_q1
  have oN : Off _ M (b + 39) (b + 40) := fun x hx => o x (by omega)
  have s1 := s1.off oN (by omega)
  have s2 := s2.off oN (by omega)
  have t1 := t1.off oN (by omega)
  have fr := fr.tr (oN.wd (by omega) (by omega))
  refine z_iinc dX8_init_58 rfl (Nat.le_of_ble_eq_true rfl) ?_
  refine g_goto (tgt := 36) dX8_init_61 (by decide) ?_
  refine g_iload_n dX8_init_36 rfl ?_
  refine g_aload_n dX8_init_37 rfl ?_
  refine z_getf fl_X8_19 dX8_init_38 m_b rfl ?_
  refine z_alenQ dX8_init_41 m_pa ?_
  refine z_icmp_ge (tgt := 64) dX8_init_42 (by decide) (by omega) (by omega) (fun c42 => absurd c42 (by omega)) (fun c42 => ?_)
  refine g_aload_n dX8_init_45 rfl ?_
  refine z_getf fl_X8_19 dX8_init_46 m_b rfl ?_
  refine g_iload_n dX8_init_49 rfl ?_
  refine z_new cis_7 ln_X8_9 dX8_init_50 df_X7 (Nat.le_of_ble_eq_true rfl) (Nat.le_of_ble_eq_true rfl) (fun M _ m_q2 o => ?_)
  have oN : Off _ M (b + 59) (b + 60) := fun x hx => o x (by omega)
  have m_b := (oN _ (by omega)).trans m_b
  have m_pa := (oN _ (by omega)).trans m_pa
  have m_q1 := (oN _ (by omega)).trans m_q1
  have s1 := s1.off oN (by omega)
  have s2 := s2.off oN (by omega)
  have t1 := t1.off oN (by omega)
  have fr := fr.tr (oN.wd (by omega) (by omega))
  refine g_dup dX8_init_53 rfl ?_
  refine z_callN dX8_init_54 lm_X8_11 lk_X7_init (n_X7 (by assumption)) rfl rfl (mkRoom rfl rfl) (Nat.le_of_ble_eq_true rfl) (Nat.le_of_ble_eq_true rfl) (Nat.le_of_ble_eq_true rfl) rfl (fun M t2 oN => ?_)
  have m_b := (oN _ (by omega)).trans m_b
  have m_pa := (oN _ (by omega)).trans m_pa
  have m_q1 := (oN _ (by omega)).trans m_q1
  have s1 := s1.off oN (by omega)
  have s2 := s2.off oN (by omega)
  have t1 := t1.off oN (by omega)
  have fr := fr.tr (oN.wd (by omega) (by omega))
  have m_q2 := t2.1
  refine z_aastore (j := 1) dX8_init_57 m_pa m_q2 (by omega) (by omega) (by omega) (fun M m_pa o => ?_)
  have m_b := (o _ (by omega)).trans m_b
  have m_q1 := (o _ (by omega)).trans m_q1
  have m_q2 := (o _ (by omega)).trans m_q2
  have oN : Off _ M (b + 39) (b + 40) := fun x hx => o x (by omega)
  have s1 := s1.off oN (by omega)
  have s2 := s2.off oN (by omega)
  have t1 := t1.off oN (by omega)
  have t2 := t2.off oN (by omega)
  have fr := fr.tr (oN.wd (by omega) (by omega))
  refine z_iinc dX8_init_58 rfl (Nat.le_of_ble_eq_true rfl) ?_
  refine g_goto (tgt := 36) dX8_init_61 (by decide) ?_
  refine g_iload_n dX8_init_36 rfl ?_
  refine g_aload_n dX8_init_37 rfl ?_
  refine z_getf fl_X8_19 dX8_init_38 m_b rfl ?_
  refine z_alenQ dX8_init_41 m_pa ?_
  refine z_icmp_ge (tgt := 64) dX8_init_42 (by decide) (by omega) (by omega) (fun c42 => absurd c42 (by omega)) (fun c42 => ?_)
  refine g_aload_n dX8_init_45 rfl ?_
  refine z_getf fl_X8_19 dX8_init_46 m_b rfl ?_
  refine g_iload_n dX8_init_49 rfl ?_
  refine z_new cis_7 ln_X8_9 dX8_init_50 df_X7 (Nat.le_of_ble_eq_true rfl) (Nat.le_of_ble_eq_true rfl) (fun M _ m_q3 o => ?_)
  have oN : Off _ M (b + 78) (b + 79) := fun x hx => o x (by omega)
  have m_b := (oN _ (by omega)).trans m_b
  have m_pa := (oN _ (by omega)).trans m_pa
  have m_q1 := (oN _ (by omega)).trans m_q1
  have m_q2 := (oN _ (by omega)).trans m_q2
  have s1 := s1.off oN (by omega)
  have s2 := s2.off oN (by omega)
  have t1 := t1.off oN (by omega)
  have t2 := t2.off oN (by omega)
  have fr := fr.tr (oN.wd (by omega) (by omega))
  refine g_dup dX8_init_53 rfl ?_
  refine z_callN dX8_init_54 lm_X8_11 lk_X7_init (n_X7 (by assumption)) rfl rfl (mkRoom rfl rfl) (Nat.le_of_ble_eq_true rfl) (Nat.le_of_ble_eq_true rfl) (Nat.le_of_ble_eq_true rfl) rfl (fun M t3 oN => ?_)
  have m_b := (oN _ (by omega)).trans m_b
  have m_pa := (oN _ (by omega)).trans m_pa
  have m_q1 := (oN _ (by omega)).trans m_q1
  have m_q2 := (oN _ (by omega)).trans m_q2
  have s1 := s1.off oN (by omega)
  have s2 := s2.off oN (by omega)
  have t1 := t1.off oN (by omega)
  have t2 := t2.off oN (by omega)
  have fr := fr.tr (oN.wd (by omega) (by omega))
  have m_q3 := t3.1
  refine z_aastore (j := 2) dX8_init_57 m_pa m_q3 (by omega) (by omega) (by omega) (fun M m_pa o => ?_)
  have m_b := (o _ (by omega)).trans m_b
  have m_q1 := (o _ (by omega)).trans m_q1
  have m_q2 := (o _ (by omega)).trans m_q2
  have m_q3 := (o _ (by omega)).trans m_q3
  have oN : Off _ M (b + 39) (b + 40) := fun x hx => o x (by omega)
  have s1 := s1.off oN (by omega)
  have s2 := s2.off oN (by omega)
  have t1 := t1.off oN (by omega)
  have t2 := t2.off oN (by omega)
  have t3 := t3.off oN (by omega)
  have fr := fr.tr (oN.wd (by omega) (by omega))
  refine z_iinc dX8_init_58 rfl (Nat.le_of_ble_eq_true rfl) ?_
  refine g_goto (tgt := 36) dX8_init_61 (by decide) ?_
  refine g_iload_n dX8_init_36 rfl ?_
  refine g_aload_n dX8_init_37 rfl ?_
  refine z_getf fl_X8_19 dX8_init_38 m_b rfl ?_
  refine z_alenQ dX8_init_41 m_pa ?_
  refine z_icmp_ge (tgt := 64) dX8_init_42 (by decide) (by omega) (by omega) (fun c42 => absurd c42 (by omega)) (fun c42 => ?_)
  refine g_aload_n dX8_init_45 rfl ?_
  refine z_getf fl_X8_19 dX8_init_46 m_b rfl ?_
  refine g_iload_n dX8_init_49 rfl ?_
  refine z_new cis_7 ln_X8_9 dX8_init_50 df_X7 (Nat.le_of_ble_eq_true rfl) (Nat.le_of_ble_eq_true rfl) (fun M _ m_q4 o => ?_)
  have oN : Off _ M (b + 97) (b + 98) := fun x hx => o x (by omega)
  have m_b := (oN _ (by omega)).trans m_b
  have m_pa := (oN _ (by omega)).trans m_pa
  have m_q1 := (oN _ (by omega)).trans m_q1
  have m_q2 := (oN _ (by omega)).trans m_q2
  have m_q3 := (oN _ (by omega)).trans m_q3
  have s1 := s1.off oN (by omega)
  have s2 := s2.off oN (by omega)
  have t1 := t1.off oN (by omega)
  have t2 := t2.off oN (by omega)
  have t3 := t3.off oN (by omega)
  have fr := fr.tr (oN.wd (by omega) (by omega))
  refine g_dup dX8_init_53 rfl ?_
  refine z_callN dX8_init_54 lm_X8_11 lk_X7_init (n_X7 (by assumption)) rfl rfl (mkRoom rfl rfl) (Nat.le_of_ble_eq_true rfl) (Nat.le_of_ble_eq_true rfl) (Nat.le_of_ble_eq_true rfl) rfl (fun M t4 oN => ?_)
  have m_b := (oN _ (by omega)).trans m_b
  have m_pa := (oN _ (by omega)).trans m_pa
  have m_q1 := (oN _ (by omega)).trans m_q1
  have m_q2 := (oN _ (by omega)).trans m_q2
  have m_q3 := (oN _ (by omega)).trans m_q3
  have s1 := s1.off oN (by omega)
  have s2 := s2.off oN (by omega)
  have t1 := t1.off oN (by omega)
  have t2 := t2.off oN (by omega)
  have t3 := t3.off oN (by omega)
  have fr := fr.tr (oN.wd (by omega) (by omega))
  have m_q4 := t4.1
  refine z_aastore (j := 3) dX8_init_57 m_pa m_q4 (by omega) (by omega) (by omega) (fun M m_pa o => ?_)
  have m_b := (o _ (by omega)).trans m_b
  have m_q1 := (o _ (by omega)).trans m_q1
  have m_q2 := (o _ (by omega)).trans m_q2
  have m_q3 := (o _ (by omega)).trans m_q3
  have m_q4 := (o _ (by omega)).trans m_q4
  have oN : Off _ M (b + 39) (b + 40) := fun x hx => o x (by omega)
  have s1 := s1.off oN (by omega)
  have s2 := s2.off oN (by omega)
  have t1 := t1.off oN (by omega)
  have t2 := t2.off oN (by omega)
  have t3 := t3.off oN (by omega)
  have t4 := t4.off oN (by omega)
  have fr := fr.tr (oN.wd (by omega) (by omega))
  refine z_iinc dX8_init_58 rfl (Nat.le_of_ble_eq_true rfl) ?_
  refine g_goto (tgt := 36) dX8_init_61 (by decide) ?_
  refine g_iload_n dX8_init_36 rfl ?_
  refine g_aload_n dX8_init_37 rfl ?_
  refine z_getf fl_X8_19 dX8_init_38 m_b rfl ?_
  refine z_alenQ dX8_init_41 m_pa ?_
  refine z_icmp_ge (tgt := 64) dX8_init_42 (by decide) (by omega) (by omega) (fun c42 => ?_) (fun c42 => absurd c42 (by omega))
  refine g_aload_n dX8_init_64 rfl ?_
  refine z_iconst dX8_init_65 ?_
  refine z_putf fl_X8_23 dX8_init_66 m_b rfl (Nat.le_of_ble_eq_true rfl) rfl rfl (fun M m_b o => ?_)
  have m_pa := (o _ (by omega)).trans m_pa
  have m_q1 := (o _ (by omega)).trans m_q1
  have m_q2 := (o _ (by omega)).trans m_q2
  have m_q3 := (o _ (by omega)).trans m_q3
  have m_q4 := (o _ (by omega)).trans m_q4
  have oN : Off _ M (b + 0) (b + 1) := fun x hx => o x (by omega)
  have s1 := s1.off oN (by omega)
  have s2 := s2.off oN (by omega)
  have t1 := t1.off oN (by omega)
  have t2 := t2.off oN (by omega)
  have t3 := t3.off oN (by omega)
  have t4 := t4.off oN (by omega)
  have fr := fr.tr (oN.wd (by omega) (by omega))
  refine g_aload_n dX8_init_69 rfl ?_
  refine z_new cis_6 ln_X8_27 dX8_init_70 df_X6 (Nat.le_of_ble_eq_true rfl) (Nat.le_of_ble_eq_true rfl) (fun M _ m_r o => ?_)
  have oN : Off _ M (b + 116) (b + 117) := fun x hx => o x (by omega)
  have m_b := (oN _ (by omega)).trans m_b
  have m_pa := (oN _ (by omega)).trans m_pa
  have m_q1 := (oN _ (by omega)).trans m_q1
  have m_q2 := (oN _ (by omega)).trans m_q2
  have m_q3 := (oN _ (by omega)).trans m_q3
  have m_q4 := (oN _ (by omega)).trans m_q4
  have s1 := s1.off oN (by omega)
  have s2 := s2.off oN (by omega)
  have t1 := t1.off oN (by omega)
  have t2 := t2.off oN (by omega)
  have t3 := t3.off oN (by omega)
  have t4 := t4.off oN (by omega)
  have fr := fr.tr (oN.wd (by omega) (by omega))
  refine g_dup dX8_init_73 rfl ?_
  refine z_sipush dX8_init_74 (by decide +kernel) ?_
  refine z_callN dX8_init_77 lm_X8_29 lk_X6_init (n_X6 (N := 200) rfl (by omega) (by assumption)) rfl rfl (mkRoom rfl rfl) (Nat.le_of_ble_eq_true rfl) (Nat.le_of_ble_eq_true rfl) (Nat.le_of_ble_eq_true rfl) rfl (fun M wt oN => ?_)
  have m_b := (oN _ (by omega)).trans m_b
  have m_pa := (oN _ (by omega)).trans m_pa
  have m_q1 := (oN _ (by omega)).trans m_q1
  have m_q2 := (oN _ (by omega)).trans m_q2
  have m_q3 := (oN _ (by omega)).trans m_q3
  have m_q4 := (oN _ (by omega)).trans m_q4
  have s1 := s1.off oN (by omega)
  have s2 := s2.off oN (by omega)
  have t1 := t1.off oN (by omega)
  have t2 := t2.off oN (by omega)
  have t3 := t3.off oN (by omega)
  have t4 := t4.off oN (by omega)
  have fr := fr.tr (oN.wd (by omega) (by omega))
  refine z_putF fl_X8_32 ff_X8_32 dX8_init_80 m_b rfl rfl rfl (Nat.le_of_ble_eq_true rfl) rfl rfl (fun M m_b o => ?_)
  have m_pa := (o _ (by omega)).trans m_pa
  have m_q1 := (o _ (by omega)).trans m_q1
  have m_q2 := (o _ (by omega)).trans m_q2
  have m_q3 := (o _ (by omega)).trans m_q3
  have m_q4 := (o _ (by omega)).trans m_q4
  have oN : Off _ M (b + 0) (b + 1) := fun x hx => o x (by omega)
  have s1 := s1.off oN (by omega)
  have s2 := s2.off oN (by omega)
  have t1 := t1.off oN (by omega)
  have t2 := t2.off oN (by omega)
  have t3 := t3.off oN (by omega)
  have t4 := t4.off oN (by omega)
  have wt := wt.off oN (by omega)
  have fr := fr.tr (oN.wd (by omega) (by omega))
  refine g_aload_n dX8_init_83 rfl ?_
  refine z_new cis_0 ln_X8_36 dX8_init_84 df_X0 (Nat.le_of_ble_eq_true rfl) (Nat.le_of_ble_eq_true rfl) (fun M _ m_r o => ?_)
  have oN : Off _ M (b + 118) (b + 119) := fun x hx => o x (by omega)
  have m_b := (oN _ (by omega)).trans m_b
  have m_pa := (oN _ (by omega)).trans m_pa
  have m_q1 := (oN _ (by omega)).trans m_q1
  have m_q2 := (oN _ (by omega)).trans m_q2
  have m_q3 := (oN _ (by omega)).trans m_q3
  have m_q4 := (oN _ (by omega)).trans m_q4
  have s1 := s1.off oN (by omega)
  have s2 := s2.off oN (by omega)
  have t1 := t1.off oN (by omega)
  have t2 := t2.off oN (by omega)
  have t3 := t3.off oN (by omega)
  have t4 := t4.off oN (by omega)
  have wt := wt.off oN (by omega)
  have fr := fr.tr (oN.wd (by omega) (by omega))
  refine g_dup dX8_init_87 rfl ?_
  refine z_callN dX8_init_88 lm_X8_38 lk_X0_init (n_X0 (by assumption)) rfl rfl (mkRoom rfl rfl) (Nat.le_of_ble_eq_true rfl) (Nat.le_of_ble_eq_true rfl) (Nat.le_of_ble_eq_true rfl) rfl (fun M wc oN => ?_)
  have m_b := (oN _ (by omega)).trans m_b
  have m_pa := (oN _ (by omega)).trans m_pa
  have m_q1 := (oN _ (by omega)).trans m_q1
  have m_q2 := (oN _ (by omega)).trans m_q2
  have m_q3 := (oN _ (by omega)).trans m_q3
  have m_q4 := (oN _ (by omega)).trans m_q4
  have s1 := s1.off oN (by omega)
  have s2 := s2.off oN (by omega)
  have t1 := t1.off oN (by omega)
  have t2 := t2.off oN (by omega)
  have t3 := t3.off oN (by omega)
  have t4 := t4.off oN (by omega)
  have wt := wt.off oN (by omega)
  have fr := fr.tr (oN.wd (by omega) (by omega))
  refine z_putF fl_X8_39 ff_X8_39 dX8_init_91 m_b rfl rfl rfl (Nat.le_of_ble_eq_true rfl) rfl rfl (fun M m_b o => ?_)
  have m_pa := (o _ (by omega)).trans m_pa
  have m_q1 := (o _ (by omega)).trans m_q1
  have m_q2 := (o _ (by omega)).trans m_q2
  have m_q3 := (o _ (by omega)).trans m_q3
  have m_q4 := (o _ (by omega)).trans m_q4
  have oN : Off _ M (b + 0) (b + 1) := fun x hx => o x (by omega)
  have s1 := s1.off oN (by omega)
  have s2 := s2.off oN (by omega)
  have t1 := t1.off oN (by omega)
  have t2 := t2.off oN (by omega)
  have t3 := t3.off oN (by omega)
  have t4 := t4.off oN (by omega)
  have wt := wt.off oN (by omega)
  have wc := wc.off oN (by omega)
  have fr := fr.tr (oN.wd (by omega) (by omega))
  refine g_aload_n dX8_init_94 rfl ?_
  refine z_new cis_5 ln_X8_43 dX8_init_95 df_X5 (Nat.le_of_ble_eq_true rfl) (Nat.le_of_ble_eq_true rfl) (fun M _ m_r o => ?_)
  have oN : Off _ M (b + 120) (b + 121) := fun x hx => o x (by omega)
  have m_b := (oN _ (by omega)).trans m_b
  have m_pa := (oN _ (by omega)).trans m_pa
  have m_q1 := (oN _ (by omega)).trans m_q1
  have m_q2 := (oN _ (by omega)).trans m_q2
  have m_q3 := (oN _ (by omega)).trans m_q3
  have m_q4 := (oN _ (by omega)).trans m_q4
  have s1 := s1.off oN (by omega)
  have s2 := s2.off oN (by omega)
  have t1 := t1.off oN (by omega)
  have t2 := t2.off oN (by omega)
  have t3 := t3.off oN (by omega)
  have t4 := t4.off oN (by omega)
  have wt := wt.off oN (by omega)
  have wc := wc.off oN (by omega)
  have fr := fr.tr (oN.wd (by omega) (by omega))
  refine g_dup dX8_init_98 rfl ?_
  refine z_callN dX8_init_99 lm_X8_45 lk_X5_init (n_X5 (by assumption)) rfl rfl (mkRoom rfl rfl) (Nat.le_of_ble_eq_true rfl) (Nat.le_of_ble_eq_true rfl) (Nat.le_of_ble_eq_true rfl) rfl (fun M wr_ oN => ?_)
  have m_b := (oN _ (by omega)).trans m_b
  have m_pa := (oN _ (by omega)).trans m_pa
  have m_q1 := (oN _ (by omega)).trans m_q1
  have m_q2 := (oN _ (by omega)).trans m_q2
  have m_q3 := (oN _ (by omega)).trans m_q3
  have m_q4 := (oN _ (by omega)).trans m_q4
  have s1 := s1.off oN (by omega)
  have s2 := s2.off oN (by omega)
  have t1 := t1.off oN (by omega)
  have t2 := t2.off oN (by omega)
  have t3 := t3.off oN (by omega)
  have t4 := t4.off oN (by omega)
  have wt := wt.off oN (by omega)
  have wc := wc.off oN (by omega)
  have fr := fr.tr (oN.wd (by omega) (by omega))
  refine z_putF fl_X8_46 ff_X8_46 dX8_init_102 m_b rfl rfl rfl (Nat.le_of_ble_eq_true rfl) rfl rfl (fun M m_b o => ?_)
  have m_pa := (o _ (by omega)).trans m_pa
  have m_q1 := (o _ (by omega)).trans m_q1
  have m_q2 := (o _ (by omega)).trans m_q2
  have m_q3 := (o _ (by omega)).trans m_q3
  have m_q4 := (o _ (by omega)).trans m_q4
  have oN : Off _ M (b + 0) (b + 1) := fun x hx => o x (by omega)
  have s1 := s1.off oN (by omega)
  have s2 := s2.off oN (by omega)
  have t1 := t1.off oN (by omega)
  have t2 := t2.off oN (by omega)
  have t3 := t3.off oN (by omega)
  have t4 := t4.off oN (by omega)
  have wt := wt.off oN (by omega)
  have wc := wc.off oN (by omega)
  have wr_ := wr_.off oN (by omega)
  have fr := fr.tr (oN.wd (by omega) (by omega))
  refine g_aload_n dX8_init_105 rfl ?_
  refine z_new cis_2 ln_X8_50 dX8_init_106 df_X2 (Nat.le_of_ble_eq_true rfl) (Nat.le_of_ble_eq_true rfl) (fun M _ m_r o => ?_)
  have oN : Off _ M (b + 127) (b + 128) := fun x hx => o x (by omega)
  have m_b := (oN _ (by omega)).trans m_b
  have m_pa := (oN _ (by omega)).trans m_pa
  have m_q1 := (oN _ (by omega)).trans m_q1
  have m_q2 := (oN _ (by omega)).trans m_q2
  have m_q3 := (oN _ (by omega)).trans m_q3
  have m_q4 := (oN _ (by omega)).trans m_q4
  have s1 := s1.off oN (by omega)
  have s2 := s2.off oN (by omega)
  have t1 := t1.off oN (by omega)
  have t2 := t2.off oN (by omega)
  have t3 := t3.off oN (by omega)
  have t4 := t4.off oN (by omega)
  have wt := wt.off oN (by omega)
  have wc := wc.off oN (by omega)
  have wr_ := wr_.off oN (by omega)
  have fr := fr.tr (oN.wd (by omega) (by omega))
  refine g_dup dX8_init_109 rfl ?_
  refine z_callN dX8_init_110 lm_X8_52 lk_X2_init (n_X2 (by assumption)) rfl rfl (mkRoom rfl rfl) (Nat.le_of_ble_eq_true rfl) (Nat.le_of_ble_eq_true rfl) (Nat.le_of_ble_eq_true rfl) rfl (fun M we oN => ?_)
  have m_b := (oN _ (by omega)).trans m_b
  have m_pa := (oN _ (by omega)).trans m_pa
  have m_q1 := (oN _ (by omega)).trans m_q1
  have m_q2 := (oN _ (by omega)).trans m_q2
  have m_q3 := (oN _ (by omega)).trans m_q3
  have m_q4 := (oN _ (by omega)).trans m_q4
  have s1 := s1.off oN (by omega)
  have s2 := s2.off oN (by omega)
  have t1 := t1.off oN (by omega)
  have t2 := t2.off oN (by omega)
  have t3 := t3.off oN (by omega)
  have t4 := t4.off oN (by omega)
  have wt := wt.off oN (by omega)
  have wc := wc.off oN (by omega)
  have wr_ := wr_.off oN (by omega)
  have fr := fr.tr (oN.wd (by omega) (by omega))
  refine z_putF fl_X8_53 ff_X8_53 dX8_init_113 m_b rfl rfl rfl (Nat.le_of_ble_eq_true rfl) rfl rfl (fun M m_b o => ?_)
  have m_pa := (o _ (by omega)).trans m_pa
  have m_q1 := (o _ (by omega)).trans m_q1
  have m_q2 := (o _ (by omega)).trans m_q2
  have m_q3 := (o _ (by omega)).trans m_q3
  have m_q4 := (o _ (by omega)).trans m_q4
  have oN : Off _ M (b + 0) (b + 1) := fun x hx => o x (by omega)
  have s1 := s1.off oN (by omega)
  have s2 := s2.off oN (by omega)
  have t1 := t1.off oN (by omega)
  have t2 := t2.off oN (by omega)
  have t3 := t3.off oN (by omega)
  have t4 := t4.off oN (by omega)
  have wt := wt.off oN (by omega)
  have wc := wc.off oN (by omega)
  have wr_ := wr_.off oN (by omega)
  have we := we.off oN (by omega)
  have fr := fr.tr (oN.wd (by omega) (by omega))
  refine g_aload_n dX8_init_116 rfl ?_
  refine z_new cis_1 ln_X8_57 dX8_init_117 df_X1 (Nat.le_of_ble_eq_true rfl) (Nat.le_of_ble_eq_true rfl) (fun M _ m_r o => ?_)
  have oN : Off _ M (b + 130) (b + 131) := fun x hx => o x (by omega)
  have m_b := (oN _ (by omega)).trans m_b
  have m_pa := (oN _ (by omega)).trans m_pa
  have m_q1 := (oN _ (by omega)).trans m_q1
  have m_q2 := (oN _ (by omega)).trans m_q2
  have m_q3 := (oN _ (by omega)).trans m_q3
  have m_q4 := (oN _ (by omega)).trans m_q4
  have s1 := s1.off oN (by omega)
  have s2 := s2.off oN (by omega)
  have t1 := t1.off oN (by omega)
  have t2 := t2.off oN (by omega)
  have t3 := t3.off oN (by omega)
  have t4 := t4.off oN (by omega)
  have wt := wt.off oN (by omega)
  have wc := wc.off oN (by omega)
  have wr_ := wr_.off oN (by omega)
  have we := we.off oN (by omega)
  have fr := fr.tr (oN.wd (by omega) (by omega))
  refine g_dup dX8_init_120 rfl ?_
  refine z_callN dX8_init_121 lm_X8_59 lk_X1_init (n_X1 (by assumption)) rfl rfl (mkRoom rfl rfl) (Nat.le_of_ble_eq_true rfl) (Nat.le_of_ble_eq_true rfl) (Nat.le_of_ble_eq_true rfl) rfl (fun M wd oN => ?_)
  have m_b := (oN _ (by omega)).trans m_b
  have m_pa := (oN _ (by omega)).trans m_pa
  have m_q1 := (oN _ (by omega)).trans m_q1
  have m_q2 := (oN _ (by omega)).trans m_q2
  have m_q3 := (oN _ (by omega)).trans m_q3
  have m_q4 := (oN _ (by omega)).trans m_q4
  have s1 := s1.off oN (by omega)
  have s2 := s2.off oN (by omega)
  have t1 := t1.off oN (by omega)
  have t2 := t2.off oN (by omega)
  have t3 := t3.off oN (by omega)
  have t4 := t4.off oN (by omega)
  have wt := wt.off oN (by omega)
  have wc := wc.off oN (by omega)
  have wr_ := wr_.off oN (by omega)
  have we := we.off oN (by omega)
  have fr := fr.tr (oN.wd (by omega) (by omega))
  obtain ⟨w0, w1, w2, w3, m_d⟩ := wd
  refine z_putF fl_X8_60 ff_X8_60 dX8_init_124 m_b rfl rfl rfl (Nat.le_of_ble_eq_true rfl) rfl rfl (fun M m_b o => ?_)
  have m_pa := (o _ (by omega)).trans m_pa
  have m_q1 := (o _ (by omega)).trans m_q1
  have m_q2 := (o _ (by omega)).trans m_q2
  have m_q3 := (o _ (by omega)).trans m_q3
  have m_q4 := (o _ (by omega)).trans m_q4
  have m_d := (o _ (by omega)).trans m_d
  have oN : Off _ M (b + 0) (b + 1) := fun x hx => o x (by omega)
  have s1 := s1.off oN (by omega)
  have s2 := s2.off oN (by omega)
  have t1 := t1.off oN (by omega)
  have t2 := t2.off oN (by omega)
  have t3 := t3.off oN (by omega)
  have t4 := t4.off oN (by omega)
  have wt := wt.off oN (by omega)
  have wc := wc.off oN (by omega)
  have wr_ := wr_.off oN (by omega)
  have we := we.off oN (by omega)
  have fr := fr.tr (oN.wd (by omega) (by omega))
  obtain ⟨m_n1, a1, a2, a3, a4⟩ := s1
  refine g_aload_n dX8_init_127 rfl ?_
  refine z_getf fl_X8_12 dX8_init_128 m_b rfl ?_
  refine z_iconst dX8_init_131 ?_
  refine g_iload_n dX8_init_132 rfl ?_
  refine z_iconst dX8_init_133 ?_
  refine z_min lj_X8_64 dX8_init_134 ⟨(Nat.le_of_ble_eq_true rfl), (Nat.le_of_ble_eq_true rfl)⟩ (Nat.le_of_ble_eq_true rfl) (Nat.le_of_ble_eq_true rfl) (by omega) (by omega) ?_
  refine z_max lj_X8_70 dX8_init_137 ⟨(Nat.le_of_ble_eq_true rfl), (Nat.le_of_ble_eq_true rfl)⟩ (Nat.le_of_ble_eq_true rfl) (Nat.le_of_ble_eq_true rfl) (by omega) (by omega) ?_
  refine z_putf fl_X8_73 dX8_init_140 m_n1 rfl (Nat.le_of_ble_eq_true rfl) rfl rfl (fun M m_n1 o => ?_)
  have m_b := (o _ (by omega)).trans m_b
  have m_pa := (o _ (by omega)).trans m_pa
  have m_d := (o _ (by omega)).trans m_d
  have oN : Off _ M (b + 1) (b + 2) := fun x hx => o x (by omega)
  have s2 := s2.off oN (by omega)
  have t1 := t1.off oN (by omega)
  have t2 := t2.off oN (by omega)
  have t3 := t3.off oN (by omega)
  have t4 := t4.off oN (by omega)
  have wt := wt.off oN (by omega)
  have wc := wc.off oN (by omega)
  have wr_ := wr_.off oN (by omega)
  have we := we.off oN (by omega)
  have a1 := a1.off oN (by omega)
  have a2 := a2.off oN (by omega)
  have a3 := a3.off oN (by omega)
  have a4 := a4.off oN (by omega)
  have fr := fr.tr (oN.wd (by omega) (by omega))
  refine g_aload_n dX8_init_143 rfl ?_
  refine z_getf fl_X8_12 dX8_init_144 m_b rfl ?_
  refine z_iconst dX8_init_147 ?_
  refine z_putf fl_X8_76 dX8_init_148 m_n1 rfl (Nat.le_of_ble_eq_true rfl) rfl rfl (fun M m_n1 o => ?_)
  have m_b := (o _ (by omega)).trans m_b
  have m_pa := (o _ (by omega)).trans m_pa
  have m_d := (o _ (by omega)).trans m_d
  have oN : Off _ M (b + 1) (b + 2) := fun x hx => o x (by omega)
  have s2 := s2.off oN (by omega)
  have t1 := t1.off oN (by omega)
  have t2 := t2.off oN (by omega)
  have t3 := t3.off oN (by omega)
  have t4 := t4.off oN (by omega)
  have wt := wt.off oN (by omega)
  have wc := wc.off oN (by omega)
  have wr_ := wr_.off oN (by omega)
  have we := we.off oN (by omega)
  have a1 := a1.off oN (by omega)
  have a2 := a2.off oN (by omega)
  have a3 := a3.off oN (by omega)
  have a4 := a4.off oN (by omega)
  have fr := fr.tr (oN.wd (by omega) (by omega))
  refine g_aload_n dX8_init_151 rfl ?_
  refine z_getf fl_X8_12 dX8_init_152 m_b rfl ?_
  refine z_sipush dX8_init_155 (by decide +kernel) ?_
  refine z_putf fl_X8_79 dX8_init_158 m_n1 rfl (Nat.le_of_ble_eq_true rfl) rfl rfl (fun M m_n1 o => ?_)
  have m_b := (o _ (by omega)).trans m_b
  have m_pa := (o _ (by omega)).trans m_pa
  have m_d := (o _ (by omega)).trans m_d
  have oN : Off _ M (b + 1) (b + 2) := fun x hx => o x (by omega)
  have s2 := s2.off oN (by omega)
  have t1 := t1.off oN (by omega)
  have t2 := t2.off oN (by omega)
  have t3 := t3.off oN (by omega)
  have t4 := t4.off oN (by omega)
  have wt := wt.off oN (by omega)
  have wc := wc.off oN (by omega)
  have wr_ := wr_.off oN (by omega)
  have we := we.off oN (by omega)
  have a1 := a1.off oN (by omega)
  have a2 := a2.off oN (by omega)
  have a3 := a3.off oN (by omega)
  have a4 := a4.off oN (by omega)
  have fr := fr.tr (oN.wd (by omega) (by omega))
  refine g_return dX8_init_161 rfl (Nat.le_of_ble_eq_true rfl) (Nat.le_of_ble_eq_true rfl) ⟨rfl, rfl, ⟨m_b, ⟨m_n1, a1, a2, a3, a4⟩, okG_0 v, ⟨_, id, m_pa, fun i hi => ?_, fun i j _ _ h => h, fun i hi => ?_, Nat.zero_le _, fun i hi => absurd hi (Nat.not_lt_zero _)⟩, s2.ex, ⟨wt, fun _ h => absurd h List.not_mem_nil⟩, ⟨(0, 0, [], 0), ⟨_, wc⟩, ⟨_, _, wr_⟩, we⟩, _, _, _, _, m_d⟩, fr⟩
  · match i, hi with
    | 0, _ => exact ⟨rfl, by decide⟩
    | 1, _ => exact ⟨rfl, by decide⟩
    | 2, _ => exact ⟨rfl, by decide⟩
    | 3, _ => exact ⟨rfl, by decide⟩
  · match i, hi with
    | 0, _ => exact t1.ex
    | 1, _ => exact t2.ex
    | 2, _ => exact t3.ex
    | 3, _ => exact t4.ex
