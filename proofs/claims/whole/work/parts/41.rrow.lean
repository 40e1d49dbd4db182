/-! the reference: its row of counts -/
/-- the reference's object at d -/
abbrev ro (d : Nat) (pm ty lo ra mm lg co ec cd wr tc mo tk fm : Int) : pE := ob 9 [.ref (d + 1), .ref (d + 2), .ref (d + 3), vI pm, .ref (d + 4), vI ty, vL lo, vL ra, .ref (d + 5), vI mm, vI lg, .ref (d + 6), vI co, vI ec, vI cd, vI wr, .ref (d + 7), vI tc, vL mo, vI tk, .ref (d + 8), vI fm]
abbrev gr (g : Nat → Int) (i : Nat) : Nat → Int := fun s => g (260 + 96 * i + s)
set_option maxHeartbeats 1000000 in
theorem r_countAt {M0 : pM} {z d : Nat} {pm ty lo ra mm lg co ec cd wr tc mo tk fm : Int} (m_d : M0 d = some (ro d pm ty lo ra mm lg co ec cd wr tc mo tk fm)) {g : Nat → Int} (m_v : M0 (d + 1) = some (arI 25700 g)) {i s : Nat} (hi : i < 250) (hs : s < 96) : CR I_X9_countAt yX9_countAt [.ref d, vI (i : Int), vI (s : Int)] M0 z (some (vI (gr g i s))) := by
  refine C.intro (pl := [some (.ref d), some (vI (i : Int)), some (vI (s : Int))]) pn_X9 rfl (fun h => absurd h (by decide)) rfl (Nat.le_of_ble_eq_true rfl) rfl ?_
  refine g_aload_n dX9_countAt_0 rfl ?_
  refine z_getf fl_X9_7 dX9_countAt_1 m_d rfl ?_
  refine z_sipush dX9_countAt_4 (by decide +kernel) ?_
  refine z_bipush dX9_countAt_7 (by decide +kernel) ?_
  refine g_iload_n dX9_countAt_9 rfl ?_
  refine z_imul dX9_countAt_10 ?_
  refine z_iadd dX9_countAt_11 ?_
  refine g_iload_n dX9_countAt_12 rfl ?_
  refine z_iadd dX9_countAt_13 ?_
  refine z_iaload (j := 260 + 96 * i + s) dX9_countAt_14 m_v (by omega) (by omega) (by omega) ?_
  exact g_ireturn dX9_countAt_15 rfl (Nat.le_of_ble_eq_true rfl) (Nat.le_of_ble_eq_true rfl) ⟨rfl, rfl, rfl⟩
set_option maxHeartbeats 1000000 in
theorem r_weightOf {M0 : pM} {z d : Nat} {pm ty lo ra mm lg co ec cd wr tc mo tk fm : Int} (m_d : M0 d = some (ro d pm ty lo ra mm lg co ec cd wr tc mo tk fm)) {g : Nat → Int} (m_v : M0 (d + 1) = some (arI 25700 g)) {i : Nat} (hi : i < 250) : CR I_X9_weightOf yX9_weightOf [.ref d, vI (i : Int)] M0 z (some (vI (wt (gr g i)))) := by
  refine C.intro (pl := [some (.ref d), some (vI (i : Int)), none, none]) pn_X9 rfl (fun h => absurd h (by decide)) rfl (Nat.le_of_ble_eq_true rfl) rfl ?_
  have loop : ∀ (k j : Nat), j + k = 96 → G I_X9_weightOf 0 0 (fun M' z' r' => M' = M0 ∧ z' = z ∧ r' = some (vI (wt (gr g i)))) 0 0 4 [some (.ref d), some (vI (i : Int)), some (vI (sm (gr g i) j)), some (vI (j : Int))] [] M0 z := by
    intro k
    induction k with
    | zero =>
      intro j hj
      have e : j = 96 := by omega
      subst e
      refine g_iload_n dX9_weightOf_4 rfl ?_
      refine z_bipush dX9_weightOf_5 (by decide +kernel) ?_
      refine z_icmp_ge (tgt := 25) dX9_weightOf_7 (by decide) (by omega) (by omega) (fun c7 => ?_) (fun c7 => absurd c7 (by omega))
      refine g_iload_n dX9_weightOf_25 rfl ?_
      exact g_ireturn dX9_weightOf_26 rfl (Nat.le_of_ble_eq_true rfl) (Nat.le_of_ble_eq_true rfl) ⟨rfl, rfl, rfl⟩
    | succ k ih =>
      intro j hj
      have ih2 := ih (j + 1) (by omega)
      rw [sm] at ih2
      refine g_iload_n dX9_weightOf_4 rfl ?_
      refine z_bipush dX9_weightOf_5 (by decide +kernel) ?_
      refine z_icmp_ge (tgt := 25) dX9_weightOf_7 (by decide) (by omega) (by omega) (fun c7 => absurd c7 (by omega)) (fun c7 => ?_)
      refine g_iload_n dX9_weightOf_10 rfl ?_
      refine g_aload_n dX9_weightOf_11 rfl ?_
      refine g_iload_n dX9_weightOf_12 rfl ?_
      refine g_iload_n dX9_weightOf_13 rfl ?_
      refine z_callVR dX9_weightOf_14 lm_X9_49 lk_X9_countAt (r_countAt m_d m_v hi (by omega)) rfl rfl m_d rfl (mkRoom rfl rfl) (Nat.le_of_ble_eq_true rfl) (Nat.le_of_ble_eq_true rfl) (Nat.le_of_ble_eq_true rfl) ?_
      refine z_iadd dX9_weightOf_17 ?_
      refine g_istore_n dX9_weightOf_18 rfl (Nat.le_of_ble_eq_true rfl) ?_
      refine z_iinc dX9_weightOf_19 rfl (Nat.le_of_ble_eq_true rfl) ?_
      refine g_goto (tgt := 4) dX9_weightOf_22 (by decide) ?_
      exact ih2
  refine z_iconst dX9_weightOf_0 ?_
  refine g_istore_n dX9_weightOf_1 rfl (Nat.le_of_ble_eq_true rfl) ?_
  refine z_iconst dX9_weightOf_2 ?_
  refine g_istore_n dX9_weightOf_3 rfl (Nat.le_of_ble_eq_true rfl) ?_
  exact loop 96 0 (by omega)
set_option maxHeartbeats 1000000 in
theorem r_known {M0 : pM} {z d : Nat} {pm ty lo ra mm lg co ec cd wr tc mo tk fm : Int} (m_d : M0 d = some (ro d pm ty lo ra mm lg co ec cd wr tc mo tk fm)) {g : Nat → Int} (m_v : M0 (d + 1) = some (arI 25700 g)) {i : Nat} (hi : i < 250)(hr : ∀ s, s < 96 → 0 ≤ gr g i s ∧ gr g i s ≤ 2000) : CR I_X9_known yX9_known [.ref d, vI (i : Int)] M0 z (some (vI (kn (gr g i)))) := by
  refine C.intro (pl := [some (.ref d), some (vI (i : Int)), none, none]) pn_X9 rfl (fun h => absurd h (by decide)) rfl (Nat.le_of_ble_eq_true rfl) rfl ?_
  have loop : ∀ (k j : Nat), j + k = 96 → G I_X9_known 0 0 (fun M' z' r' => M' = M0 ∧ z' = z ∧ r' = some (vI (kn (gr g i)))) 0 0 4 [some (.ref d), some (vI (i : Int)), some (vI (sm (fun s => if 0 < gr g i s then 1 else 0) j)), some (vI (j : Int))] [] M0 z := by
    intro k
    induction k with
    | zero =>
      intro j hj
      have e : j = 96 := by omega
      subst e
      refine g_iload_n dX9_known_4 rfl ?_
      refine z_bipush dX9_known_5 (by decide +kernel) ?_
      refine z_icmp_ge (tgt := 33) dX9_known_7 (by decide) (by omega) (by omega) (fun c7 => ?_) (fun c7 => absurd c7 (by omega))
      refine g_iload_n dX9_known_33 rfl ?_
      exact g_ireturn dX9_known_34 rfl (Nat.le_of_ble_eq_true rfl) (Nat.le_of_ble_eq_true rfl) ⟨rfl, rfl, rfl⟩
    | succ k ih =>
      intro j hj
      have ih2 := ih (j + 1) (by omega)
      have hrj := hr j (by omega)
      rw [sm] at ih2
      refine g_iload_n dX9_known_4 rfl ?_
      refine z_bipush dX9_known_5 (by decide +kernel) ?_
      refine z_icmp_ge (tgt := 33) dX9_known_7 (by decide) (by omega) (by omega) (fun c7 => absurd c7 (by omega)) (fun c7 => ?_)
      refine g_iload_n dX9_known_10 rfl ?_
      refine g_aload_n dX9_known_11 rfl ?_
      refine g_iload_n dX9_known_12 rfl ?_
      refine g_iload_n dX9_known_13 rfl ?_
      refine z_callVR dX9_known_14 lm_X9_49 lk_X9_countAt (r_countAt m_d m_v hi (by omega)) rfl rfl m_d rfl (mkRoom rfl rfl) (Nat.le_of_ble_eq_true rfl) (Nat.le_of_ble_eq_true rfl) (Nat.le_of_ble_eq_true rfl) ?_
      refine z_if_le (tgt := 24) dX9_known_17 (by decide) (by omega) (fun c17 => ?_) (fun c17 => ?_)
      · refine z_iconst dX9_known_24 ?_
        refine z_iadd dX9_known_25 ?_
        refine g_istore_n dX9_known_26 rfl (Nat.le_of_ble_eq_true rfl) ?_
        refine z_iinc dX9_known_27 rfl (Nat.le_of_ble_eq_true rfl) ?_
        refine g_goto (tgt := 4) dX9_known_30 (by decide) ?_
        first
        | (rw [if_pos (by omega)] at ih2; exact ih2)
        | (rw [if_neg (by omega)] at ih2; exact ih2)
      · refine z_iconst dX9_known_20 ?_
        refine g_goto (tgt := 25) dX9_known_21 (by decide) ?_
        refine z_iadd dX9_known_25 ?_
        refine g_istore_n dX9_known_26 rfl (Nat.le_of_ble_eq_true rfl) ?_
        refine z_iinc dX9_known_27 rfl (Nat.le_of_ble_eq_true rfl) ?_
        refine g_goto (tgt := 4) dX9_known_30 (by decide) ?_
        first
        | (rw [if_pos (by omega)] at ih2; exact ih2)
        | (rw [if_neg (by omega)] at ih2; exact ih2)
  refine z_iconst dX9_known_0 ?_
  refine g_istore_n dX9_known_1 rfl (Nat.le_of_ble_eq_true rfl) ?_
  refine z_iconst dX9_known_2 ?_
  refine g_istore_n dX9_known_3 rfl (Nat.le_of_ble_eq_true rfl) ?_
  exact loop 96 0 (by omega)
/-- the reference's symbols that are gone -/
def Go (M : pM) (d : Nat) (ex : Nat → Bool) : Prop := ∃ gg : Nat → Int, M (d + 6) = some (arZ 96 gg) ∧ ∀ s, s < 96 → gg s = if ex s then 1 else 0
theorem Go.by_ {M M' : pM} {d : Nat} {ex : Nat → Bool} (h : Go M d ex) (e : M' (d + 6) = M (d + 6)) : Go M' d ex := by
  obtain ⟨gg, h1, h2⟩ := h
  exact ⟨gg, e.trans h1, h2⟩
theorem go01 {ex : Nat → Bool} {gg : Nat → Int} {s : Nat} (h : gg s = if ex s then 1 else 0) : (ex s = true ∧ gg s = 1) ∨ (ex s = false ∧ gg s = 0) := by
  cases he : ex s
  · rw [he] at h; exact Or.inr ⟨rfl, h⟩
  · rw [he] at h; exact Or.inl ⟨rfl, h⟩
set_option maxHeartbeats 1000000 in
theorem r_below {M0 : pM} {z d : Nat} {pm ty lo ra mm lg co ec cd wr tc mo tk fm : Int} (m_d : M0 d = some (ro d pm ty lo ra mm lg co ec cd wr tc mo tk fm)) {g : Nat → Int} (m_v : M0 (d + 1) = some (arI 25700 g)) {i : Nat} (hi : i < 250){n : Nat} (hn : n ≤ 96) {ex : Nat → Bool} (hg : Go M0 d ex) : CR I_X9_below yX9_below [.ref d, vI (i : Int), vI (n : Int)] M0 z (some (vI (smx ex (gr g i) n))) := by
  obtain ⟨gg, m_go, hgg⟩ := id hg
  refine C.intro (pl := [some (.ref d), some (vI (i : Int)), some (vI (n : Int)), none, none]) pn_X9 rfl (fun h => absurd h (by decide)) rfl (Nat.le_of_ble_eq_true rfl) rfl ?_
  have loop : ∀ (k j : Nat), j + k = n → G I_X9_below 0 0 (fun M' z' r' => M' = M0 ∧ z' = z ∧ r' = some (vI (smx ex (gr g i) n))) 0 0 5 [some (.ref d), some (vI (i : Int)), some (vI (n : Int)), some (vI (smx ex (gr g i) j)), some (vI (j : Int))] [] M0 z := by
    intro k
    induction k with
    | zero =>
      intro j hj
      have e : j = n := by omega
      subst e
      refine g_iload dX9_below_5 rfl ?_
      refine g_iload_n dX9_below_7 rfl ?_
      refine z_icmp_ge (tgt := 41) dX9_below_8 (by decide) (by omega) (by omega) (fun c8 => ?_) (fun c8 => absurd c8 (by omega))
      refine g_iload_n dX9_below_41 rfl ?_
      exact g_ireturn dX9_below_42 rfl (Nat.le_of_ble_eq_true rfl) (Nat.le_of_ble_eq_true rfl) ⟨rfl, rfl, rfl⟩
    | succ k ih =>
      intro j hj
      have ih2 := ih (j + 1) (by omega)
      rw [smx_s] at ih2
      rcases go01 (hgg j (by omega)) with ⟨h1, h2⟩ | ⟨h1, h2⟩
      · rw [h1, if_pos rfl] at ih2
        refine g_iload dX9_below_5 rfl ?_
        refine g_iload_n dX9_below_7 rfl ?_
        refine z_icmp_ge (tgt := 41) dX9_below_8 (by decide) (by omega) (by omega) (fun c8 => absurd c8 (by omega)) (fun c8 => ?_)
        refine g_iload_n dX9_below_11 rfl ?_
        refine g_aload_n dX9_below_12 rfl ?_
        refine z_getf fl_X9_26 dX9_below_13 m_d rfl ?_
        refine g_iload dX9_below_16 rfl ?_
        refine z_baload (j := j) dX9_below_18 m_go rfl (by omega) (by omega) ?_
        refine z_if_eq (tgt := 26) dX9_below_19 (by decide) (by omega) (fun c19 => absurd c19 (by omega)) (fun c19 => ?_)
        refine z_iconst dX9_below_22 ?_
        refine g_goto (tgt := 33) dX9_below_23 (by decide) ?_
        refine z_iadd dX9_below_33 ?_
        refine g_istore_n dX9_below_34 rfl (Nat.le_of_ble_eq_true rfl) ?_
        refine z_iinc dX9_below_35 rfl (Nat.le_of_ble_eq_true rfl) ?_
        refine g_goto (tgt := 5) dX9_below_38 (by decide) ?_
        exact ih2
      · rw [h1, if_neg Bool.false_ne_true] at ih2
        refine g_iload dX9_below_5 rfl ?_
        refine g_iload_n dX9_below_7 rfl ?_
        refine z_icmp_ge (tgt := 41) dX9_below_8 (by decide) (by omega) (by omega) (fun c8 => absurd c8 (by omega)) (fun c8 => ?_)
        refine g_iload_n dX9_below_11 rfl ?_
        refine g_aload_n dX9_below_12 rfl ?_
        refine z_getf fl_X9_26 dX9_below_13 m_d rfl ?_
        refine g_iload dX9_below_16 rfl ?_
        refine z_baload (j := j) dX9_below_18 m_go rfl (by omega) (by omega) ?_
        refine z_if_eq (tgt := 26) dX9_below_19 (by decide) (by omega) (fun c19 => ?_) (fun c19 => absurd c19 (by omega))
        refine g_aload_n dX9_below_26 rfl ?_
        refine g_iload_n dX9_below_27 rfl ?_
        refine g_iload dX9_below_28 rfl ?_
        refine z_callVR dX9_below_30 lm_X9_49 lk_X9_countAt (r_countAt m_d m_v hi (by omega)) rfl rfl m_d rfl (mkRoom rfl rfl) (Nat.le_of_ble_eq_true rfl) (Nat.le_of_ble_eq_true rfl) (Nat.le_of_ble_eq_true rfl) ?_
        refine z_iadd dX9_below_33 ?_
        refine g_istore_n dX9_below_34 rfl (Nat.le_of_ble_eq_true rfl) ?_
        refine z_iinc dX9_below_35 rfl (Nat.le_of_ble_eq_true rfl) ?_
        refine g_goto (tgt := 5) dX9_below_38 (by decide) ?_
        exact ih2
  refine z_iconst dX9_below_0 ?_
  refine g_istore_n dX9_below_1 rfl (Nat.le_of_ble_eq_true rfl) ?_
  refine z_iconst dX9_below_2 ?_
  refine g_istore dX9_below_3 (Nat.le_of_ble_eq_true rfl) ?_
  exact loop n 0 (by omega)
/-- the counts of the row v are the table t -/
def VM (g : Nat → Int) (t : tbl) : Prop := g 4 = (t.length : Int) ∧ t.length ≤ 250 ∧ ∀ (i : Nat) (h : i < t.length), kr t[i].1 (g (10 + i)) ∧ ∀ s, s < 96 → gr g i s = t[i].2 s
set_option maxHeartbeats 1000000 in
theorem r_find {M0 : pM} {z d : Nat} {pm ty lo ra mm lg co ec cd wr tc mo tk fm : Int} (m_d : M0 d = some (ro d pm ty lo ra mm lg co ec cd wr tc mo tk fm)) {g : Nat → Int} (m_v : M0 (d + 1) = some (arI 25700 g)) {t : tbl} (hv : VM g t) {q N n j : Nat} {xs : List Int} (h : Tx M0 q N xs) (hx : okX xs) (hn : n ≤ xs.length) (hj : j ≤ n) (h3 : j ≤ 3) : CR I_X9_find yX9_find [.ref d, .ref q, vI (n : Int), vI (j : Int)] M0 z (some (vI (fnd t (ky xs n j)))) := by
  obtain ⟨hv1, hv2, hv3⟩ := id hv
  have hxl := h.len
  have hcx : okX (cx xs n j) := cx_ok hx
  have hcl : (cx xs n j).length ≤ 3 := by rw [cx_len hn hj]; exact h3
  have hrk := rk_rng hcx hcl
  refine C.intro (pl := [some (.ref d), some (.ref q), some (vI (n : Int)), some (vI (j : Int)), none, none]) pn_X9 rfl (fun h => absurd h (by decide)) rfl (Nat.le_of_ble_eq_true rfl) rfl ?_
  have loop : ∀ (k i : Nat), i + k = t.length → (∀ (u : Nat) (hu : u < t.length), u < i → t[u].1 ≠ ky xs n j) → G I_X9_find 0 0 (fun M' z' r' => M' = M0 ∧ z' = z ∧ r' = some (vI (fnd t (ky xs n j)))) 0 0 11 [some (.ref d), some (.ref q), some (vI (n : Int)), some (vI (j : Int)), some (vI (rk (cx xs n j))), some (vI (i : Int))] [] M0 z := by
    intro k
    induction k with
    | zero =>
      intro i hi hno
      have e : i = t.length := by omega
      subst e
      refine g_iload dX9_find_11 rfl ?_
      refine g_aload_n dX9_find_13 rfl ?_
      refine z_getf fl_X9_7 dX9_find_14 m_d rfl ?_
      refine z_iconst dX9_find_17 ?_
      refine z_iaload (j := 4) dX9_find_18 m_v rfl (by omega) (by omega) ?_
      refine z_icmp_ge (tgt := 46) dX9_find_19 (by decide) (by omega) (by omega) (fun c19 => ?_) (fun c19 => absurd c19 (by omega))
      refine z_iconst dX9_find_46 ?_
      exact g_ireturn dX9_find_47 rfl (Nat.le_of_ble_eq_true rfl) (Nat.le_of_ble_eq_true rfl) ⟨rfl, rfl, by rw [fnd_no (fun u hu => hno u hu (by omega))]⟩
    | succ k ih =>
      intro i hi hno
      have hlt : i < t.length := by omega
      obtain ⟨hk, -⟩ := hv3 i hlt
      have hkr := hk.rng
      have hke := hk.eq hcx hcl
      refine g_iload dX9_find_11 rfl ?_
      refine g_aload_n dX9_find_13 rfl ?_
      refine z_getf fl_X9_7 dX9_find_14 m_d rfl ?_
      refine z_iconst dX9_find_17 ?_
      refine z_iaload (j := 4) dX9_find_18 m_v rfl (by omega) (by omega) ?_
      refine z_icmp_ge (tgt := 46) dX9_find_19 (by decide) (by omega) (by omega) (fun c19 => absurd c19 (by omega)) (fun c19 => ?_)
      refine g_aload_n dX9_find_22 rfl ?_
      refine z_getf fl_X9_7 dX9_find_23 m_d rfl ?_
      refine z_bipush dX9_find_26 (by decide +kernel) ?_
      refine g_iload dX9_find_28 rfl ?_
      refine z_iadd dX9_find_30 ?_
      refine z_iaload (j := 10 + i) dX9_find_31 m_v (by omega) (by omega) (by omega) ?_
      refine g_iload dX9_find_32 rfl ?_
      refine z_icmp_ne (tgt := 40) dX9_find_34 (by decide) (by omega) (by omega) (fun c34 => ?_) (fun c34 => ?_)
      · refine z_iinc dX9_find_40 rfl (Nat.le_of_ble_eq_true rfl) ?_
        refine g_goto (tgt := 11) dX9_find_43 (by decide) ?_
        refine ih (i + 1) (by omega) (fun u hu h2 => ?_)
        by_cases e : u = i
        · subst e
          intro he
          exact c34 (hke.mp he)
        · exact hno u hu (by omega)
      · refine g_iload dX9_find_37 rfl ?_
        exact g_ireturn dX9_find_39 rfl (Nat.le_of_ble_eq_true rfl) (Nat.le_of_ble_eq_true rfl) ⟨rfl, rfl, by rw [fnd_at (k := ky xs n j) hlt (hke.mpr (by omega)) (fun u hu => hno u (by omega) hu)]⟩
  refine g_aload_n dX9_find_0 rfl ?_
  refine g_iload_n dX9_find_1 rfl ?_
  refine g_iload_n dX9_find_2 rfl ?_
  refine z_callSR dX9_find_3 lm_X9_45 lk_X9_keyOf (r_keyOf h hn hj) rfl rfl (mkRoom rfl rfl) (Nat.le_of_ble_eq_true rfl) (Nat.le_of_ble_eq_true rfl) (Nat.le_of_ble_eq_true rfl) ?_
  refine g_istore dX9_find_6 (Nat.le_of_ble_eq_true rfl) ?_
  refine z_iconst dX9_find_8 ?_
  refine g_istore dX9_find_9 (Nat.le_of_ble_eq_true rfl) ?_
  exact loop t.length 0 (by omega) (fun u hu h => absurd h (Nat.not_lt_zero _))
