/-! the reference: a symbol is coded -/
theorem lev_v (exc : Int) (ex : Nat → Bool) (c : Nat → Int) (s : Nat) : lev exc ex c s = (ex s || (decide (exc = 1) && decide (0 < c s))) := by
  unfold lev
  split
  · next h => simp [h]
  · next h => simp [h]
theorem Go.cong {M : pM} {d : Nat} {ex ex2 : Nat → Bool} (h : Go M d ex) (e : ∀ s, s < 96 → ex s = ex2 s) : Go M d ex2 := by
  obtain ⟨gg, h1, h2⟩ := h
  exact ⟨gg, h1, fun s hs => by rw [h2 s hs, e s hs]⟩
def exm (j : Nat) (f ex : Nat → Bool) (s : Nat) : Bool := if s < j then f s else ex s
theorem exm_lt {j s : Nat} {f ex : Nat → Bool} (h : s < j) : exm j f ex s = f s := if_pos h
theorem exm_ge {j s : Nat} {f ex : Nat → Bool} (h : ¬ s < j) : exm j f ex s = ex s := if_neg h
def ewf (wr : Int) (e : es) (L : List iv) : es := if wr = 0 then e else ecs e L
theorem ewf_snoc (wr : Int) (e : es) (L : List iv) (x : iv) : ewf wr e (L ++ [x]) = ewr wr (ewf wr e L) x := by
  unfold ewf ewr
  split
  · rfl
  · rw [ecs_snoc]
theorem ewf_nil (wr : Int) (e : es) : ewf wr e [] = e := by
  unfold ewf
  split <;> rfl
theorem cst_snoc2 (L : List iv) (x : iv) : cst (L ++ [x]) = cst L + lgc (x.2.1 - x.1) x.2.2 := by
  unfold cst
  rw [List.map_append, List.sum_append, List.map_singleton, List.sum_singleton]
theorem wOK.mono {wr : Int} {e : es} {n l n2 l2 : Nat} (h : wOK wr e n l) (hn : n ≤ n2) (hl : l ≤ l2) : wOK wr e n2 l2 := by
  rcases h with rfl | ⟨rfl, h1, h2, h3⟩
  · exact Or.inl rfl
  · exact Or.inr ⟨rfl, h1.mono hn, h2, by omega⟩
theorem ib_2 {x : iv} (h : x.2.2 ≤ 1096) : ib x ≤ 2 := by
  unfold ib
  split
  · omega
  · first
    | exact Nat.le_refl _
    | (rw [if_pos h]; exact Nat.le_refl _)
theorem ib_1 {x : iv} (h : x.2.2 ≤ 96) : ib x ≤ 1 := by
  unfold ib
  rw [if_pos h]; exact Nat.le_refl _
set_option maxHeartbeats 1000000 in
theorem r_clears {M0 : pM} {z d : Nat} {pm ty lo ra mm lg co ec cd wr tc mo tk fm : Int} (m_d : M0 d = some (ro d pm ty lo ra mm lg co ec cd wr tc mo tk fm)) {ex : Nat → Bool} (hg : Go M0 d ex) : CW I_X9_clears yX9_clears [.ref d] M0 z (fun M' r => r = none ∧ M' d = some (ro d pm ty lo ra mm lg 0 0 (-1) wr tc mo tk fm) ∧ Go M' d (fun _ => false) ∧ (∀ x : Nat, ¬ (x = d ∨ x = d + 6) → M' x = M0 x)) := by
  obtain ⟨gg0, m_go, -⟩ := hg
  have fr : (∀ x : Nat, ¬ (x = d ∨ x = d + 6) → M0 x = M0 x) := fun _ _ => rfl
  refine C.intro (pl := [some (.ref d), none]) pn_X9 rfl (fun h => absurd h (by decide)) rfl (Nat.le_of_ble_eq_true rfl) rfl ?_
  have loop : ∀ (k j : Nat) (M : pM) (gg : Nat → Int), j + k = 96 → M d = some (ro d pm ty lo ra mm lg 0 0 (-1) wr tc mo tk fm) → M (d + 6) = some (arZ 96 gg) → (∀ s, s < j → gg s = 0) → (∀ x : Nat, ¬ (x = d ∨ x = d + 6) → M x = M0 x) → G I_X9_clears 0 0 (fun M' z' r' => z' = z ∧ r' = none ∧ M' d = some (ro d pm ty lo ra mm lg 0 0 (-1) wr tc mo tk fm) ∧ Go M' d (fun _ => false) ∧ (∀ x : Nat, ¬ (x = d ∨ x = d + 6) → M' x = M0 x)) 0 0 17 [some (.ref d), some (vI (j : Int))] [] M z := by
    intro k
    induction k with
    | zero =>
      intro j M gg hj m_d m_go h1 fr
      have e : j = 96 := by omega
      subst e
      refine g_iload_n dX9_clears_17 rfl ?_
      refine z_bipush dX9_clears_18 (by decide +kernel) ?_
      refine z_icmp_ge (tgt := 36) dX9_clears_20 (by decide) (by omega) (by omega) (fun c20 => ?_) (fun c20 => absurd c20 (by omega))
      exact g_return dX9_clears_36 rfl (Nat.le_of_ble_eq_true rfl) (Nat.le_of_ble_eq_true rfl) ⟨rfl, rfl, m_d, ⟨gg, m_go, fun s hs => by rw [h1 s hs]; rfl⟩, fr⟩
    | succ k ih =>
      intro j M gg hj m_d m_go h1 fr
      refine g_iload_n dX9_clears_17 rfl ?_
      refine z_bipush dX9_clears_18 (by decide +kernel) ?_
      refine z_icmp_ge (tgt := 36) dX9_clears_20 (by decide) (by omega) (by omega) (fun c20 => absurd c20 (by omega)) (fun c20 => ?_)
      refine g_aload_n dX9_clears_23 rfl ?_
      refine z_getf fl_X9_26 dX9_clears_24 m_d rfl ?_
      refine g_iload_n dX9_clears_27 rfl ?_
      refine z_iconst dX9_clears_28 ?_
      refine z_bastore (j := j) dX9_clears_29 m_go (by omega) (by omega) (by omega) (by omega) (fun M m_go o => ?_)
      have m_d := (o _ (by omega)).trans m_d
      have fr : (∀ x : Nat, ¬ (x = d ∨ x = d + 6) → M x = M0 x) := fun x hx => (o x (by omega)).trans (fr x hx)
      refine z_iinc dX9_clears_30 rfl (Nat.le_of_ble_eq_true rfl) ?_
      refine g_goto (tgt := 17) dX9_clears_33 (by decide) ?_
      exact ih (j + 1) M _ (by omega) m_d m_go (fun s hs => by
        by_cases e : s = j
        · rw [e, upZ_s]
        · rw [upZ_n e]; exact h1 s (by omega)) fr
  refine g_aload_n dX9_clears_0 rfl ?_
  refine z_iconst dX9_clears_1 ?_
  refine z_putf fl_X9_93 dX9_clears_2 m_d rfl (Nat.le_of_ble_eq_true rfl) rfl rfl (fun M m_d o => ?_)
  have m_go := (o _ (by omega)).trans m_go
  have fr : (∀ x : Nat, ¬ (x = d ∨ x = d + 6) → M x = M0 x) := fun x hx => (o x (by omega)).trans (fr x hx)
  refine g_aload_n dX9_clears_5 rfl ?_
  refine z_iconst dX9_clears_6 ?_
  refine z_putf fl_X9_107 dX9_clears_7 m_d rfl (Nat.le_of_ble_eq_true rfl) rfl rfl (fun M m_d o => ?_)
  have m_go := (o _ (by omega)).trans m_go
  have fr : (∀ x : Nat, ¬ (x = d ∨ x = d + 6) → M x = M0 x) := fun x hx => (o x (by omega)).trans (fr x hx)
  refine g_aload_n dX9_clears_10 rfl ?_
  refine z_iconst dX9_clears_11 ?_
  refine z_putf fl_X9_110 dX9_clears_12 m_d rfl (Nat.le_of_ble_eq_true rfl) rfl rfl (fun M m_d o => ?_)
  have m_go := (o _ (by omega)).trans m_go
  have fr : (∀ x : Nat, ¬ (x = d ∨ x = d + 6) → M x = M0 x) := fun x hx => (o x (by omega)).trans (fr x hx)
  refine z_iconst dX9_clears_15 ?_
  refine g_istore_n dX9_clears_16 rfl (Nat.le_of_ble_eq_true rfl) ?_
  exact loop 96 0 M _ (by omega) m_d m_go (fun s hs => absurd hs (Nat.not_lt_zero _)) fr
set_option maxHeartbeats 1000000 in
theorem r_excludes {M0 : pM} {z d : Nat} {pm ty lo ra mm lg co ec cd wr tc mo tk fm : Int} (m_d : M0 d = some (ro d pm ty lo ra mm lg co ec cd wr tc mo tk fm)) {g : Nat → Int} (m_v : M0 (d + 1) = some (arI 25700 g)) {i : Nat} (hi : i < 250) {ex : Nat → Bool} (hg : Go M0 d ex) (h1 : g 1 = 0 ∨ g 1 = 1) (hr : ∀ s, s < 96 → 0 ≤ gr g i s ∧ gr g i s ≤ 2000) : CW I_X9_excludes yX9_excludes [.ref d, vI (i : Int)] M0 z (fun M' r => r = none ∧ Go M' d (lev (g 1) ex (gr g i)) ∧ (∀ x : Nat, ¬ (x = d + 6) → M' x = M0 x)) := by
  obtain ⟨gg0, m_go, hgg⟩ := hg
  have fr : (∀ x : Nat, ¬ (x = d + 6) → M0 x = M0 x) := fun _ _ => rfl
  refine C.intro (pl := [some (.ref d), some (vI (i : Int)), none]) pn_X9 rfl (fun h => absurd h (by decide)) rfl (Nat.le_of_ble_eq_true rfl) rfl ?_
  have loop : ∀ (k j : Nat) (M : pM) (gg : Nat → Int), j + k = 96 → M d = some (ro d pm ty lo ra mm lg co ec cd wr tc mo tk fm) → M (d + 1) = some (arI 25700 g) → M (d + 6) = some (arZ 96 gg) → (∀ s, s < 96 → gg s = if exm j (lev (g 1) ex (gr g i)) ex s then 1 else 0) → (∀ x : Nat, ¬ (x = d + 6) → M x = M0 x) → G I_X9_excludes 0 0 (fun M' z' r' => z' = z ∧ r' = none ∧ Go M' d (lev (g 1) ex (gr g i)) ∧ (∀ x : Nat, ¬ (x = d + 6) → M' x = M0 x)) 0 0 2 [some (.ref d), some (vI (i : Int)), some (vI (j : Int))] [] M z := by
    intro k
    induction k with
    | zero =>
      intro j M gg hj m_d m_v m_go hx fr
      have e : j = 96 := by omega
      subst e
      refine g_iload_n dX9_excludes_2 rfl ?_
      refine z_bipush dX9_excludes_3 (by decide +kernel) ?_
      refine z_icmp_ge (tgt := 53) dX9_excludes_5 (by decide) (by omega) (by omega) (fun c5 => ?_) (fun c5 => absurd c5 (by omega))
      exact g_return dX9_excludes_53 rfl (Nat.le_of_ble_eq_true rfl) (Nat.le_of_ble_eq_true rfl) ⟨rfl, rfl, ⟨gg, m_go, fun s hs => by rw [hx s hs, exm_lt hs]⟩, fr⟩
    | succ k ih =>
      intro j M gg hj m_d m_v m_go hx fr
      have hj96 : j < 96 := by omega
      have hxj := hx j hj96
      rw [exm_ge (by omega)] at hxj
      have hrj := hr j hj96
      have fin : ∀ v : Int, v = (if lev (g 1) ex (gr g i) j then 1 else 0) → ∀ s, s < 96 → upZ gg j v s = if exm (j + 1) (lev (g 1) ex (gr g i)) ex s then 1 else 0 := fun v hv s hs => by
        by_cases e : s = j
        · rw [e, upZ_s, exm_lt (by omega)]; exact hv
        · rw [upZ_n e, hx s hs]
          by_cases e2 : s < j
          · rw [exm_lt e2, exm_lt (by omega)]
          · rw [exm_ge e2, exm_ge (by omega)]
      rcases go01 hxj with ⟨h3, h4⟩ | ⟨h3, h4⟩
      · refine g_iload_n dX9_excludes_2 rfl ?_
        refine z_bipush dX9_excludes_3 (by decide +kernel) ?_
        refine z_icmp_ge (tgt := 53) dX9_excludes_5 (by decide) (by omega) (by omega) (fun c5 => absurd c5 (by omega)) (fun c5 => ?_)
        refine g_aload_n dX9_excludes_8 rfl ?_
        refine z_getf fl_X9_26 dX9_excludes_9 m_d rfl ?_
        refine g_iload_n dX9_excludes_12 rfl ?_
        refine g_aload_n dX9_excludes_13 rfl ?_
        refine z_getf fl_X9_26 dX9_excludes_14 m_d rfl ?_
        refine g_iload_n dX9_excludes_17 rfl ?_
        refine z_baload (j := j) dX9_excludes_18 m_go rfl (by omega) (by omega) ?_
        refine z_if_ne (tgt := 41) dX9_excludes_19 (by decide) (by omega) (fun c19 => ?_) (fun c19 => absurd c19 (by omega))
        refine z_iconst dX9_excludes_41 ?_
        refine g_goto (tgt := 46) dX9_excludes_42 (by decide) ?_
        refine z_bastore (j := j) dX9_excludes_46 m_go (by omega) (by omega) (by omega) (by omega) (fun M m_go o => ?_)
        have m_d := (o _ (by omega)).trans m_d
        have m_v := (o _ (by omega)).trans m_v
        have fr : (∀ x : Nat, ¬ (x = d + 6) → M x = M0 x) := fun x hx => (o x (by omega)).trans (fr x hx)
        refine z_iinc dX9_excludes_47 rfl (Nat.le_of_ble_eq_true rfl) ?_
        refine g_goto (tgt := 2) dX9_excludes_50 (by decide) ?_
        refine ih (j + 1) M _ (by omega) m_d m_v m_go (fin _ ?_) fr
        rw [lev_v, h3]
        rfl
      · refine g_iload_n dX9_excludes_2 rfl ?_
        refine z_bipush dX9_excludes_3 (by decide +kernel) ?_
        refine z_icmp_ge (tgt := 53) dX9_excludes_5 (by decide) (by omega) (by omega) (fun c5 => absurd c5 (by omega)) (fun c5 => ?_)
        refine g_aload_n dX9_excludes_8 rfl ?_
        refine z_getf fl_X9_26 dX9_excludes_9 m_d rfl ?_
        refine g_iload_n dX9_excludes_12 rfl ?_
        refine g_aload_n dX9_excludes_13 rfl ?_
        refine z_getf fl_X9_26 dX9_excludes_14 m_d rfl ?_
        refine g_iload_n dX9_excludes_17 rfl ?_
        refine z_baload (j := j) dX9_excludes_18 m_go rfl (by omega) (by omega) ?_
        refine z_if_ne (tgt := 41) dX9_excludes_19 (by decide) (by omega) (fun c19 => absurd c19 (by omega)) (fun c19 => ?_)
        refine g_aload_n dX9_excludes_22 rfl ?_
        refine z_getf fl_X9_7 dX9_excludes_23 m_d rfl ?_
        refine z_iconst dX9_excludes_26 ?_
        refine z_iaload (j := 1) dX9_excludes_27 m_v rfl (by omega) (by omega) ?_
        refine z_iconst dX9_excludes_28 ?_
        refine z_icmp_ne (tgt := 45) dX9_excludes_29 (by decide) (by omega) (by omega) (fun c29 => ?_) (fun c29 => ?_)
        · refine z_iconst dX9_excludes_45 ?_
          refine z_bastore (j := j) dX9_excludes_46 m_go (by omega) (by omega) (by omega) (by omega) (fun M m_go o => ?_)
          have m_d := (o _ (by omega)).trans m_d
          have m_v := (o _ (by omega)).trans m_v
          have fr : (∀ x : Nat, ¬ (x = d + 6) → M x = M0 x) := fun x hx => (o x (by omega)).trans (fr x hx)
          refine z_iinc dX9_excludes_47 rfl (Nat.le_of_ble_eq_true rfl) ?_
          refine g_goto (tgt := 2) dX9_excludes_50 (by decide) ?_
          refine ih (j + 1) M _ (by omega) m_d m_v m_go (fin _ ?_) fr
          rw [lev_v, h3]
          first
          | (rw [decide_eq_true c29, decide_eq_true c38]; rfl)
          | (rw [decide_eq_false c29]; rfl)
          | (rw [decide_eq_false (by omega : ¬ 0 < gr g i j), Bool.and_false]; rfl)
          | rfl
        · refine g_aload_n dX9_excludes_32 rfl ?_
          refine g_iload_n dX9_excludes_33 rfl ?_
          refine g_iload_n dX9_excludes_34 rfl ?_
          refine z_callVR dX9_excludes_35 lm_X9_49 lk_X9_countAt (r_countAt m_d m_v hi (by omega)) rfl rfl m_d rfl (mkRoom rfl rfl) (Nat.le_of_ble_eq_true rfl) (Nat.le_of_ble_eq_true rfl) (Nat.le_of_ble_eq_true rfl) ?_
          refine z_if_le (tgt := 45) dX9_excludes_38 (by decide) (by omega) (fun c38 => ?_) (fun c38 => ?_)
          · refine z_iconst dX9_excludes_45 ?_
            refine z_bastore (j := j) dX9_excludes_46 m_go (by omega) (by omega) (by omega) (by omega) (fun M m_go o => ?_)
            have m_d := (o _ (by omega)).trans m_d
            have m_v := (o _ (by omega)).trans m_v
            have fr : (∀ x : Nat, ¬ (x = d + 6) → M x = M0 x) := fun x hx => (o x (by omega)).trans (fr x hx)
            refine z_iinc dX9_excludes_47 rfl (Nat.le_of_ble_eq_true rfl) ?_
            refine g_goto (tgt := 2) dX9_excludes_50 (by decide) ?_
            refine ih (j + 1) M _ (by omega) m_d m_v m_go (fin _ ?_) fr
            rw [lev_v, h3]
            first
            | (rw [decide_eq_true c29, decide_eq_true c38]; rfl)
            | (rw [decide_eq_false c29]; rfl)
            | (rw [decide_eq_false (by omega : ¬ 0 < gr g i j), Bool.and_false]; rfl)
            | rfl
          · refine z_iconst dX9_excludes_41 ?_
            refine g_goto (tgt := 46) dX9_excludes_42 (by decide) ?_
            refine z_bastore (j := j) dX9_excludes_46 m_go (by omega) (by omega) (by omega) (by omega) (fun M m_go o => ?_)
            have m_d := (o _ (by omega)).trans m_d
            have m_v := (o _ (by omega)).trans m_v
            have fr : (∀ x : Nat, ¬ (x = d + 6) → M x = M0 x) := fun x hx => (o x (by omega)).trans (fr x hx)
            refine z_iinc dX9_excludes_47 rfl (Nat.le_of_ble_eq_true rfl) ?_
            refine g_goto (tgt := 2) dX9_excludes_50 (by decide) ?_
            refine ih (j + 1) M _ (by omega) m_d m_v m_go (fin _ ?_) fr
            rw [lev_v, h3]
            first
            | (rw [decide_eq_true c29, decide_eq_true c38]; rfl)
            | (rw [decide_eq_false c29]; rfl)
            | (rw [decide_eq_false (by omega : ¬ 0 < gr g i j), Bool.and_false]; rfl)
            | rfl
  refine z_iconst dX9_excludes_0 ?_
  refine g_istore_n dX9_excludes_1 rfl (Nat.le_of_ble_eq_true rfl) ?_
  exact loop 96 0 M0 _ (by omega) m_d m_v m_go (fun s hs => by rw [exm_ge (Nat.not_lt_zero _)]; exact hgg s hs) fr
set_option maxHeartbeats 1000000 in
theorem r_codes {M0 : pM} {z d : Nat} {pm ty co ec cd wr tc mo tk fm : Int} {e : es} (m_d : M0 d = some (ro d pm ty e.1 e.2.1 (e.2.2.1.length : Int) e.2.2.2 co ec cd wr tc mo tk fm)) {g : Nat → Int} (m_v : M0 (d + 1) = some (arI 25700 g)) {t : tbl} (hv : VM g t) (ht : okT t) (hS : okS (g 0) (g 1) (g 2) (g 3)) {q N n s m l : Nat} {xs : List Int} (h : Tx M0 q N xs) (hq : q ≠ d ∧ q ≠ d + 5 ∧ q ≠ d + 6) (hx : okX xs) (hn : n ≤ xs.length) (hs : s < 96) {ex : Nat → Bool} (hg : Go M0 d ex) (hm : Ma M0 d e.2.2.1) (hw : wOK wr e m l) (hm2 : m ≤ 4900) (hl2 : l ≤ 1987) : CW I_X9_codes yX9_codes [.ref d, .ref q, vI (n : Int), vI (s : Int)] M0 z (fun M' r => r = none ∧ M' d = some (ro d pm ty (ewf wr e (route t xs n (g 1) (g 0) s).1).1 (ewf wr e (route t xs n (g 1) (g 0) s).1).2.1 ((ewf wr e (route t xs n (g 1) (g 0) s).1).2.2.1.length : Int) (ewf wr e (route t xs n (g 1) (g 0) s).1).2.2.2 (cst (route t xs n (g 1) (g 0) s).1) (((route t xs n (g 1) (g 0) s).1.length : Int) - 1) (route t xs n (g 1) (g 0) s).2 wr tc mo tk fm) ∧ Ma M' d (ewf wr e (route t xs n (g 1) (g 0) s).1).2.2.1 ∧ (∃ ex, Go M' d ex) ∧ wOK wr (ewf wr e (route t xs n (g 1) (g 0) s).1) (m + 20) (l + 9) ∧ (∀ x : Nat, ¬ (x = d ∨ x = d + 5 ∨ x = d + 6) → M' x = M0 x)) := by
  obtain ⟨hS1, hS2, hS3, hS4⟩ := id hS
  obtain ⟨v1, v2, v3⟩ := id hv
  have hxl := h.len
  have fr : (∀ x : Nat, ¬ (x = d ∨ x = d + 5 ∨ x = d + 6) → M0 x = M0 x) := fun _ _ => rfl
  refine C.intro (pl := [some (.ref d), some (.ref q), some (vI (n : Int)), some (vI (s : Int)), none, none, none, none, none]) pn_X9 rfl (fun h => absurd h (by decide)) rfl (Nat.le_of_ble_eq_true rfl) rfl ?_
  have loop : ∀ (R : List iv × Int) (k : Nat) (ex : Nat → Bool) (L : List iv) (M : pM), L.length + k ≤ 4 → (k : Int) ≤ g 0 + 1 → k ≤ n + 1 → ex s = false → (∀ x ∈ L, okI x) → pln (fun j => cnO t (ky xs n j)) (g 1) s k ex L = R → wOK wr (ewf wr e L) (m + 4 * L.length) (l + 2 * L.length) → M d = some (ro d pm ty (ewf wr e L).1 (ewf wr e L).2.1 ((ewf wr e L).2.2.1.length : Int) (ewf wr e L).2.2.2 (cst L) (L.length : Int) (-1) wr tc mo tk fm) → M (d + 1) = some (arI 25700 g) → Tx M q N xs → Go M d ex → Ma M d (ewf wr e L).2.2.1 → (∀ x : Nat, ¬ (x = d ∨ x = d + 5 ∨ x = d + 6) → M x = M0 x) → ∀ K5 K6 K7 K8 : Option Value, G I_X9_codes 0 0 (fun M' z' r' => z' = z ∧ r' = none ∧ M' d = some (ro d pm ty (ewf wr e R.1).1 (ewf wr e R.1).2.1 ((ewf wr e R.1).2.2.1.length : Int) (ewf wr e R.1).2.2.2 (cst R.1) ((R.1.length : Int) - 1) R.2 wr tc mo tk fm) ∧ Ma M' d (ewf wr e R.1).2.2.1 ∧ (∃ ex, Go M' d ex) ∧ wOK wr (ewf wr e R.1) (m + 20) (l + 9) ∧ (∀ x : Nat, ¬ (x = d ∨ x = d + 5 ∨ x = d + 6) → M' x = M0 x)) 0 0 26 [some (.ref d), some (.ref q), some (vI (n : Int)), some (vI (s : Int)), some (vI ((k : Int) - 1)), K5, K6, K7, K8] [] M z := by
    intro R k
    induction k with
    | zero =>
      intro ex L M hk hk2 hk3 he hL hR hw m_d m_v h hg hm fr K5 K6 K7 K8
      obtain ⟨gg, m_go, hgg⟩ := id hg
      have hR' : (L ++ [(cnx ex s, cnx ex s + 1, cnx ex 96)], (-1 : Int)) = R := hR
      have hcn := cnx_rng ex 96
      have hok := okI_last hs he
      have li : ∀ (u y : Nat), y + u = 96 → ∀ K7 K8 : Option Value, G I_X9_codes 0 0 (fun M' z' r' => z' = z ∧ r' = none ∧ M' d = some (ro d pm ty (ewf wr e R.1).1 (ewf wr e R.1).2.1 ((ewf wr e R.1).2.2.1.length : Int) (ewf wr e R.1).2.2.2 (cst R.1) ((R.1.length : Int) - 1) R.2 wr tc mo tk fm) ∧ Ma M' d (ewf wr e R.1).2.2.1 ∧ (∃ ex, Go M' d ex) ∧ wOK wr (ewf wr e R.1) (m + 20) (l + 9) ∧ (∀ x : Nat, ¬ (x = d ∨ x = d + 5 ∨ x = d + 6) → M' x = M0 x)) 0 0 167 [some (.ref d), some (.ref q), some (vI (n : Int)), some (vI (s : Int)), some (vI (cnx ex (min y s))), some (vI (cnx ex y)), some (vI (y : Int)), K7, K8] [] M z := by
        intro u
        induction u with
        | zero =>
          intro y hy K7 K8
          have e : y = 96 := by omega
          subst e
          rw [show min 96 s = s by omega]
          refine g_iload dX9_codes_167 rfl ?_
          refine z_bipush dX9_codes_169 (by decide +kernel) ?_
          refine z_icmp_ge (tgt := 226) dX9_codes_171 (by decide) (by omega) (by omega) (fun c171 => ?_) (fun c171 => absurd c171 (by omega))
          refine g_aload_n dX9_codes_226 rfl ?_
          refine g_iload dX9_codes_227 rfl ?_
          refine g_iload dX9_codes_229 rfl ?_
          refine z_iconst dX9_codes_231 ?_
          refine z_iadd dX9_codes_232 ?_
          refine g_iload dX9_codes_233 rfl ?_
          refine z_callVV dX9_codes_235 lm_X9_122 lk_X9_interval (r_interval m_d hm hok hw (by omega) (by omega)) rfl rfl m_d rfl (mkRoom rfl rfl) (Nat.le_of_ble_eq_true rfl) (Nat.le_of_ble_eq_true rfl) (Nat.le_of_ble_eq_true rfl) (fun M r hp => ?_)
          obtain ⟨rfl, m_d, hm, o1⟩ := hp
          have hg := hg.by_ (o1 _ (by omega))
          have fr : (∀ x : Nat, ¬ (x = d ∨ x = d + 5 ∨ x = d + 6) → M x = M0 x) := fun x hx => (o1 x (by omega)).trans (fr x hx)
          have hw := hw.step hok
          have hib := ib_1 (x := (cnx ex s, cnx ex s + 1, cnx ex 96)) (by dsimp only; omega)
          refine g_return dX9_codes_238 rfl (Nat.le_of_ble_eq_true rfl) (Nat.le_of_ble_eq_true rfl) ⟨rfl, rfl, ?_, ?_, ⟨ex, hg⟩, ?_, fr⟩
          · rw [← hR', ewf_snoc, cst_snoc2, List.length_append, List.length_singleton, show ((L.length + 1 : Nat) : Int) - 1 = (L.length : Int) by omega]
            exact m_d
          · rw [← hR', ewf_snoc]
            exact hm
          · rw [← hR', ewf_snoc]
            exact hw.mono (by omega) (by omega)

        | succ u ihu =>
          intro y hy K7 K8
          have ih2 := ihu (y + 1) (by omega) K7 K8
          rw [cnx_s] at ih2
          have hmy : cnx ex (min (y + 1) s) = cnx ex (min y s) + if ex y = false ∧ y < s then 1 else 0 := by
            by_cases e : y < s
            · rw [show min (y + 1) s = y + 1 by omega, show min y s = y by omega, cnx_s]
              cases ex y
              · rw [if_neg Bool.false_ne_true, if_pos ⟨rfl, e⟩]
              · rw [if_pos rfl, if_neg (fun q => Bool.false_ne_true q.1.symm)]
            · rw [show min (y + 1) s = s by omega, show min y s = s by omega, if_neg (fun q => e q.2), Int.add_zero]
          rw [hmy] at ih2
          rcases go01 (hgg y (by omega)) with ⟨h3, h4⟩ | ⟨h3, h4⟩
          · rw [h3, if_pos rfl, if_neg (fun q => Bool.false_ne_true q.1.symm)] at ih2
            refine g_iload dX9_codes_167 rfl ?_
            refine z_bipush dX9_codes_169 (by decide +kernel) ?_
            refine z_icmp_ge (tgt := 226) dX9_codes_171 (by decide) (by omega) (by omega) (fun c171 => absurd c171 (by omega)) (fun c171 => ?_)
            refine g_iload dX9_codes_174 rfl ?_
            refine g_aload_n dX9_codes_176 rfl ?_
            refine z_getf fl_X9_26 dX9_codes_177 m_d rfl ?_
            refine g_iload dX9_codes_180 rfl ?_
            refine z_baload (j := y) dX9_codes_182 m_go rfl (by omega) (by omega) ?_
            refine z_if_ne (tgt := 196) dX9_codes_183 (by decide) (by omega) (fun c183 => ?_) (fun c183 => absurd c183 (by omega))
            refine z_iconst dX9_codes_196 ?_
            refine z_iadd dX9_codes_197 ?_
            refine g_istore dX9_codes_198 (Nat.le_of_ble_eq_true rfl) ?_
            refine g_iload dX9_codes_200 rfl ?_
            refine g_aload_n dX9_codes_202 rfl ?_
            refine z_getf fl_X9_26 dX9_codes_203 m_d rfl ?_
            refine g_iload dX9_codes_206 rfl ?_
            refine z_baload (j := y) dX9_codes_208 m_go rfl (by omega) (by omega) ?_
            refine z_if_eq (tgt := 216) dX9_codes_209 (by decide) (by omega) (fun c209 => absurd c209 (by omega)) (fun c209 => ?_)
            refine z_iconst dX9_codes_212 ?_
            refine g_goto (tgt := 217) dX9_codes_213 (by decide) ?_
            refine z_iadd dX9_codes_217 ?_
            refine g_istore dX9_codes_218 (Nat.le_of_ble_eq_true rfl) ?_
            refine z_iinc dX9_codes_220 rfl (Nat.le_of_ble_eq_true rfl) ?_
            refine g_goto (tgt := 167) dX9_codes_223 (by decide) ?_
            exact ih2
          · rw [h3, if_neg Bool.false_ne_true] at ih2
            by_cases hys : y < s
            · rw [if_pos ⟨rfl, hys⟩] at ih2
              refine g_iload dX9_codes_167 rfl ?_
              refine z_bipush dX9_codes_169 (by decide +kernel) ?_
              refine z_icmp_ge (tgt := 226) dX9_codes_171 (by decide) (by omega) (by omega) (fun c171 => absurd c171 (by omega)) (fun c171 => ?_)
              refine g_iload dX9_codes_174 rfl ?_
              refine g_aload_n dX9_codes_176 rfl ?_
              refine z_getf fl_X9_26 dX9_codes_177 m_d rfl ?_
              refine g_iload dX9_codes_180 rfl ?_
              refine z_baload (j := y) dX9_codes_182 m_go rfl (by omega) (by omega) ?_
              refine z_if_ne (tgt := 196) dX9_codes_183 (by decide) (by omega) (fun c183 => absurd c183 (by omega)) (fun c183 => ?_)
              refine g_iload dX9_codes_186 rfl ?_
              refine g_iload_n dX9_codes_188 rfl ?_
              refine z_icmp_ge (tgt := 196) dX9_codes_189 (by decide) (by omega) (by omega) (fun c189 => absurd c189 (by omega)) (fun c189 => ?_)
              refine z_iconst dX9_codes_192 ?_
              refine g_goto (tgt := 197) dX9_codes_193 (by decide) ?_
              refine z_iadd dX9_codes_197 ?_
              refine g_istore dX9_codes_198 (Nat.le_of_ble_eq_true rfl) ?_
              refine g_iload dX9_codes_200 rfl ?_
              refine g_aload_n dX9_codes_202 rfl ?_
              refine z_getf fl_X9_26 dX9_codes_203 m_d rfl ?_
              refine g_iload dX9_codes_206 rfl ?_
              refine z_baload (j := y) dX9_codes_208 m_go rfl (by omega) (by omega) ?_
              refine z_if_eq (tgt := 216) dX9_codes_209 (by decide) (by omega) (fun c209 => ?_) (fun c209 => absurd c209 (by omega))
              refine z_iconst dX9_codes_216 ?_
              refine z_iadd dX9_codes_217 ?_
              refine g_istore dX9_codes_218 (Nat.le_of_ble_eq_true rfl) ?_
              refine z_iinc dX9_codes_220 rfl (Nat.le_of_ble_eq_true rfl) ?_
              refine g_goto (tgt := 167) dX9_codes_223 (by decide) ?_
              exact ih2
            · rw [if_neg (fun q => hys q.2)] at ih2
              refine g_iload dX9_codes_167 rfl ?_
              refine z_bipush dX9_codes_169 (by decide +kernel) ?_
              refine z_icmp_ge (tgt := 226) dX9_codes_171 (by decide) (by omega) (by omega) (fun c171 => absurd c171 (by omega)) (fun c171 => ?_)
              refine g_iload dX9_codes_174 rfl ?_
              refine g_aload_n dX9_codes_176 rfl ?_
              refine z_getf fl_X9_26 dX9_codes_177 m_d rfl ?_
              refine g_iload dX9_codes_180 rfl ?_
              refine z_baload (j := y) dX9_codes_182 m_go rfl (by omega) (by omega) ?_
              refine z_if_ne (tgt := 196) dX9_codes_183 (by decide) (by omega) (fun c183 => absurd c183 (by omega)) (fun c183 => ?_)
              refine g_iload dX9_codes_186 rfl ?_
              refine g_iload_n dX9_codes_188 rfl ?_
              refine z_icmp_ge (tgt := 196) dX9_codes_189 (by decide) (by omega) (by omega) (fun c189 => ?_) (fun c189 => absurd c189 (by omega))
              refine z_iconst dX9_codes_196 ?_
              refine z_iadd dX9_codes_197 ?_
              refine g_istore dX9_codes_198 (Nat.le_of_ble_eq_true rfl) ?_
              refine g_iload dX9_codes_200 rfl ?_
              refine g_aload_n dX9_codes_202 rfl ?_
              refine z_getf fl_X9_26 dX9_codes_203 m_d rfl ?_
              refine g_iload dX9_codes_206 rfl ?_
              refine z_baload (j := y) dX9_codes_208 m_go rfl (by omega) (by omega) ?_
              refine z_if_eq (tgt := 216) dX9_codes_209 (by decide) (by omega) (fun c209 => ?_) (fun c209 => absurd c209 (by omega))
              refine z_iconst dX9_codes_216 ?_
              refine z_iadd dX9_codes_217 ?_
              refine g_istore dX9_codes_218 (Nat.le_of_ble_eq_true rfl) ?_
              refine z_iinc dX9_codes_220 rfl (Nat.le_of_ble_eq_true rfl) ?_
              refine g_goto (tgt := 167) dX9_codes_223 (by decide) ?_
              exact ih2
      refine g_iload dX9_codes_26 rfl ?_
      refine z_if_lt (tgt := 158) dX9_codes_28 (by decide) (by omega) (fun c28 => ?_) (fun c28 => absurd c28 (by omega))
      refine z_iconst dX9_codes_158 ?_
      refine g_istore dX9_codes_159 (Nat.le_of_ble_eq_true rfl) ?_
      refine z_iconst dX9_codes_161 ?_
      refine g_istore dX9_codes_162 (Nat.le_of_ble_eq_true rfl) ?_
      refine z_iconst dX9_codes_164 ?_
      refine g_istore dX9_codes_165 (Nat.le_of_ble_eq_true rfl) ?_
      have l0 := li 96 0 (by omega) K7 K8
      rw [show min 0 s = 0 by omega] at l0
      exact l0
    | succ k ih =>
      intro ex L M hk hk2 hk3 he hL hR hw m_d m_v h hg hm fr K5 K6 K7 K8
      obtain ⟨gg, m_go, hgg⟩ := id hg
      have hggs : gg s = 0 := by rw [hgg s hs, he]; rfl
      have e0 : (((k + 1 : Nat) : Int) - 1) = (k : Int) := by omega
      rw [e0]
      rcases fnd_cases t (ky xs n k) with ⟨f1, f2⟩ | ⟨i, hi, f1, f2⟩
      · rw [pln_no (cnO_no (by rw [f1]; decide))] at hR
        refine g_iload dX9_codes_26 rfl ?_
        refine z_if_lt (tgt := 158) dX9_codes_28 (by decide) (by omega) (fun c28 => absurd c28 (by omega)) (fun c28 => ?_)
        refine g_aload_n dX9_codes_31 rfl ?_
        refine g_aload_n dX9_codes_32 rfl ?_
        refine g_iload_n dX9_codes_33 rfl ?_
        refine g_iload dX9_codes_34 rfl ?_
        refine z_callVR dX9_codes_36 lm_X9_57 lk_X9_find ((r_find m_d m_v hv h hx hn (by omega) (by omega)).eq (by rw [f1])) rfl rfl m_d rfl (mkRoom rfl rfl) (Nat.le_of_ble_eq_true rfl) (Nat.le_of_ble_eq_true rfl) (Nat.le_of_ble_eq_true rfl) ?_
        refine g_istore dX9_codes_39 (Nat.le_of_ble_eq_true rfl) ?_
        refine g_iload dX9_codes_41 rfl ?_
        refine z_if_lt (tgt := 152) dX9_codes_43 (by decide) (by omega) (fun c43 => ?_) (fun c43 => absurd c43 (by omega))
        refine z_iinc dX9_codes_152 rfl (Nat.le_of_ble_eq_true rfl) ?_
        refine g_goto (tgt := 26) dX9_codes_155 (by decide) ?_
        rw [show (k : Int) + -1 = (k : Int) - 1 by omega]
        exact ih ex L M (by omega) (by omega) (by omega) he hL hR hw m_d m_v h hg hm fr _ _ _ _
      · have hcn : cnO t (ky xs n k) = some t[i].2 := cnO_at f1 hi
        have hoc := ht.at hi
        obtain ⟨-, w1⟩ := v3 i hi
        generalize t[i].2 = cc at hcn hoc w1
        have hsm : ∀ (n : Nat), n ≤ 96 → smx ex (gr g i) n = smx ex cc n := fun n hn => sm_cong (fun s hs => by rw [w1 s (by omega)])
        have hkn : kn (gr g i) = kn cc := sm_cong (fun s hs => by rw [w1 s hs])
        have hcs := w1 s hs
        have hcr := hoc.cnt hs
        have hr : ∀ s, s < 96 → 0 ≤ gr g i s ∧ gr g i s ≤ 2000 := fun s hs => by rw [w1 s hs]; have := hoc.cnt hs; omega
        have hs96 := hoc.smx ex (Nat.le_refl 96)
        have hss := hoc.smx ex (n := s) (by omega)
        have hkr := kn_rng cc
        have hi250 : i < 250 := by omega
        by_cases hc : 0 < cc s
        · rw [pln_yes hcn ⟨he, hc⟩] at hR
          have hok := okI_sym hoc hs he hc
          refine g_iload dX9_codes_26 rfl ?_
          refine z_if_lt (tgt := 158) dX9_codes_28 (by decide) (by omega) (fun c28 => absurd c28 (by omega)) (fun c28 => ?_)
          refine g_aload_n dX9_codes_31 rfl ?_
          refine g_aload_n dX9_codes_32 rfl ?_
          refine g_iload_n dX9_codes_33 rfl ?_
          refine g_iload dX9_codes_34 rfl ?_
          refine z_callVR dX9_codes_36 lm_X9_57 lk_X9_find ((r_find m_d m_v hv h hx hn (by omega) (by omega)).eq (by rw [f1])) rfl rfl m_d rfl (mkRoom rfl rfl) (Nat.le_of_ble_eq_true rfl) (Nat.le_of_ble_eq_true rfl) (Nat.le_of_ble_eq_true rfl) ?_
          refine g_istore dX9_codes_39 (Nat.le_of_ble_eq_true rfl) ?_
          refine g_iload dX9_codes_41 rfl ?_
          refine z_if_lt (tgt := 152) dX9_codes_43 (by decide) (by omega) (fun c43 => absurd c43 (by omega)) (fun c43 => ?_)
          refine g_aload_n dX9_codes_46 rfl ?_
          refine g_iload dX9_codes_47 rfl ?_
          refine z_bipush dX9_codes_49 (by decide +kernel) ?_
          refine z_callVR dX9_codes_51 lm_X9_116 lk_X9_below ((r_below m_d m_v hi250 (Nat.le_refl 96) hg).eq (by rw [hsm 96 (Nat.le_refl _)])) rfl rfl m_d rfl (mkRoom rfl rfl) (Nat.le_of_ble_eq_true rfl) (Nat.le_of_ble_eq_true rfl) (Nat.le_of_ble_eq_true rfl) ?_
          refine g_istore dX9_codes_54 (Nat.le_of_ble_eq_true rfl) ?_
          refine g_aload_n dX9_codes_56 rfl ?_
          refine g_iload dX9_codes_57 rfl ?_
          refine z_callVR dX9_codes_59 lm_X9_119 lk_X9_known ((r_known m_d m_v hi250 hr).eq (by rw [hkn])) rfl rfl m_d rfl (mkRoom rfl rfl) (Nat.le_of_ble_eq_true rfl) (Nat.le_of_ble_eq_true rfl) (Nat.le_of_ble_eq_true rfl) ?_
          refine g_istore dX9_codes_62 (Nat.le_of_ble_eq_true rfl) ?_
          refine g_aload_n dX9_codes_64 rfl ?_
          refine z_getf fl_X9_26 dX9_codes_65 m_d rfl ?_
          refine g_iload_n dX9_codes_68 rfl ?_
          refine z_baload (j := s) dX9_codes_69 m_go rfl (by omega) (by omega) ?_
          refine z_if_ne (tgt := 120) dX9_codes_70 (by decide) (by omega) (fun c70 => absurd c70 (by omega)) (fun c70 => ?_)
          refine g_aload_n dX9_codes_73 rfl ?_
          refine g_iload dX9_codes_74 rfl ?_
          refine g_iload_n dX9_codes_76 rfl ?_
          refine z_callVR dX9_codes_77 lm_X9_49 lk_X9_countAt ((r_countAt m_d m_v hi250 hs).eq (by rw [hcs])) rfl rfl m_d rfl (mkRoom rfl rfl) (Nat.le_of_ble_eq_true rfl) (Nat.le_of_ble_eq_true rfl) (Nat.le_of_ble_eq_true rfl) ?_
          refine z_if_le (tgt := 120) dX9_codes_80 (by decide) (by omega) (fun c80 => absurd c80 (by omega)) (fun c80 => ?_)
          refine g_aload_n dX9_codes_83 rfl ?_
          refine g_iload dX9_codes_84 rfl ?_
          refine g_iload_n dX9_codes_86 rfl ?_
          refine z_callVR dX9_codes_87 lm_X9_116 lk_X9_below ((r_below m_d m_v hi250 (show s ≤ 96 by omega) hg).eq (by rw [hsm s (by omega)])) rfl rfl m_d rfl (mkRoom rfl rfl) (Nat.le_of_ble_eq_true rfl) (Nat.le_of_ble_eq_true rfl) (Nat.le_of_ble_eq_true rfl) ?_
          refine g_istore dX9_codes_90 (Nat.le_of_ble_eq_true rfl) ?_
          refine g_aload_n dX9_codes_92 rfl ?_
          refine g_iload dX9_codes_93 rfl ?_
          refine g_iload dX9_codes_95 rfl ?_
          refine g_aload_n dX9_codes_97 rfl ?_
          refine g_iload dX9_codes_98 rfl ?_
          refine g_iload_n dX9_codes_100 rfl ?_
          refine z_callVR dX9_codes_101 lm_X9_49 lk_X9_countAt ((r_countAt m_d m_v hi250 hs).eq (by rw [hcs])) rfl rfl m_d rfl (mkRoom rfl rfl) (Nat.le_of_ble_eq_true rfl) (Nat.le_of_ble_eq_true rfl) (Nat.le_of_ble_eq_true rfl) ?_
          refine z_iadd dX9_codes_104 ?_
          refine g_iload dX9_codes_105 rfl ?_
          refine g_iload dX9_codes_107 rfl ?_
          refine z_iadd dX9_codes_109 ?_
          refine z_callVV dX9_codes_110 lm_X9_122 lk_X9_interval (r_interval m_d hm hok hw (by omega) (by omega)) rfl rfl m_d rfl (mkRoom rfl rfl) (Nat.le_of_ble_eq_true rfl) (Nat.le_of_ble_eq_true rfl) (Nat.le_of_ble_eq_true rfl) (fun M r hp => ?_)
          obtain ⟨rfl, m_d, hm, o1⟩ := hp
          have hg := hg.by_ (o1 _ (by omega))
          have m_v := (o1 _ (by omega)).trans m_v
          have h := h.by_ (o1 _ (by omega))
          have fr : (∀ x : Nat, ¬ (x = d ∨ x = d + 5 ∨ x = d + 6) → M x = M0 x) := fun x hx => (o1 x (by omega)).trans (fr x hx)
          have hw := hw.step hok
          have hib := ib_2 (x := (smx ex cc s, smx ex cc s + cc s, smx ex cc 96 + kn cc)) (by dsimp only; omega)
          refine g_aload_n dX9_codes_113 rfl ?_
          refine g_iload dX9_codes_114 rfl ?_
          refine z_putf fl_X9_110 dX9_codes_116 m_d rfl (Nat.le_of_ble_eq_true rfl) rfl rfl (fun M m_d o => ?_)
          have m_v := (o _ (by omega)).trans m_v
          have fr : (∀ x : Nat, ¬ (x = d ∨ x = d + 5 ∨ x = d + 6) → M x = M0 x) := fun x hx => (o x (by omega)).trans (fr x hx)
          have hm := hm.by_ (o _ (by omega))
          have hg := hg.by_ (o _ (by omega))
          refine g_return dX9_codes_119 rfl (Nat.le_of_ble_eq_true rfl) (Nat.le_of_ble_eq_true rfl) ⟨rfl, rfl, ?_, ?_, ⟨ex, hg⟩, ?_, fr⟩
          · rw [← hR, ewf_snoc, cst_snoc2, List.length_append, List.length_singleton, show ((L.length + 1 : Nat) : Int) - 1 = (L.length : Int) by omega]
            exact m_d
          · rw [← hR, ewf_snoc]
            exact hm
          · rw [← hR, ewf_snoc]
            exact hw.mono (by omega) (by omega)

        · have hne : ¬ (ex s = false ∧ 0 < cc s) := fun q => hc q.2
          rw [pln_esc hcn hne] at hR
          have hok := okI_esc (ex := ex) hoc
          have hes := lev_s (exc := g 1) he hne
          refine g_iload dX9_codes_26 rfl ?_
          refine z_if_lt (tgt := 158) dX9_codes_28 (by decide) (by omega) (fun c28 => absurd c28 (by omega)) (fun c28 => ?_)
          refine g_aload_n dX9_codes_31 rfl ?_
          refine g_aload_n dX9_codes_32 rfl ?_
          refine g_iload_n dX9_codes_33 rfl ?_
          refine g_iload dX9_codes_34 rfl ?_
          refine z_callVR dX9_codes_36 lm_X9_57 lk_X9_find ((r_find m_d m_v hv h hx hn (by omega) (by omega)).eq (by rw [f1])) rfl rfl m_d rfl (mkRoom rfl rfl) (Nat.le_of_ble_eq_true rfl) (Nat.le_of_ble_eq_true rfl) (Nat.le_of_ble_eq_true rfl) ?_
          refine g_istore dX9_codes_39 (Nat.le_of_ble_eq_true rfl) ?_
          refine g_iload dX9_codes_41 rfl ?_
          refine z_if_lt (tgt := 152) dX9_codes_43 (by decide) (by omega) (fun c43 => absurd c43 (by omega)) (fun c43 => ?_)
          refine g_aload_n dX9_codes_46 rfl ?_
          refine g_iload dX9_codes_47 rfl ?_
          refine z_bipush dX9_codes_49 (by decide +kernel) ?_
          refine z_callVR dX9_codes_51 lm_X9_116 lk_X9_below ((r_below m_d m_v hi250 (Nat.le_refl 96) hg).eq (by rw [hsm 96 (Nat.le_refl _)])) rfl rfl m_d rfl (mkRoom rfl rfl) (Nat.le_of_ble_eq_true rfl) (Nat.le_of_ble_eq_true rfl) (Nat.le_of_ble_eq_true rfl) ?_
          refine g_istore dX9_codes_54 (Nat.le_of_ble_eq_true rfl) ?_
          refine g_aload_n dX9_codes_56 rfl ?_
          refine g_iload dX9_codes_57 rfl ?_
          refine z_callVR dX9_codes_59 lm_X9_119 lk_X9_known ((r_known m_d m_v hi250 hr).eq (by rw [hkn])) rfl rfl m_d rfl (mkRoom rfl rfl) (Nat.le_of_ble_eq_true rfl) (Nat.le_of_ble_eq_true rfl) (Nat.le_of_ble_eq_true rfl) ?_
          refine g_istore dX9_codes_62 (Nat.le_of_ble_eq_true rfl) ?_
          refine g_aload_n dX9_codes_64 rfl ?_
          refine z_getf fl_X9_26 dX9_codes_65 m_d rfl ?_
          refine g_iload_n dX9_codes_68 rfl ?_
          refine z_baload (j := s) dX9_codes_69 m_go rfl (by omega) (by omega) ?_
          refine z_if_ne (tgt := 120) dX9_codes_70 (by decide) (by omega) (fun c70 => absurd c70 (by omega)) (fun c70 => ?_)
          refine g_aload_n dX9_codes_73 rfl ?_
          refine g_iload dX9_codes_74 rfl ?_
          refine g_iload_n dX9_codes_76 rfl ?_
          refine z_callVR dX9_codes_77 lm_X9_49 lk_X9_countAt ((r_countAt m_d m_v hi250 hs).eq (by rw [hcs])) rfl rfl m_d rfl (mkRoom rfl rfl) (Nat.le_of_ble_eq_true rfl) (Nat.le_of_ble_eq_true rfl) (Nat.le_of_ble_eq_true rfl) ?_
          refine z_if_le (tgt := 120) dX9_codes_80 (by decide) (by omega) (fun c80 => ?_) (fun c80 => absurd c80 (by omega))
          refine g_aload_n dX9_codes_120 rfl ?_
          refine g_iload dX9_codes_121 rfl ?_
          refine g_iload dX9_codes_123 rfl ?_
          refine g_iload dX9_codes_125 rfl ?_
          refine z_iadd dX9_codes_127 ?_
          refine g_iload dX9_codes_128 rfl ?_
          refine g_iload dX9_codes_130 rfl ?_
          refine z_iadd dX9_codes_132 ?_
          refine z_callVV dX9_codes_133 lm_X9_122 lk_X9_interval (r_interval m_d hm hok hw (by omega) (by omega)) rfl rfl m_d rfl (mkRoom rfl rfl) (Nat.le_of_ble_eq_true rfl) (Nat.le_of_ble_eq_true rfl) (Nat.le_of_ble_eq_true rfl) (fun M r hp => ?_)
          obtain ⟨rfl, m_d, hm, o1⟩ := hp
          have hg := hg.by_ (o1 _ (by omega))
          have m_v := (o1 _ (by omega)).trans m_v
          have h := h.by_ (o1 _ (by omega))
          have fr : (∀ x : Nat, ¬ (x = d ∨ x = d + 5 ∨ x = d + 6) → M x = M0 x) := fun x hx => (o1 x (by omega)).trans (fr x hx)
          have hw := hw.step hok
          have hib := ib_2 (x := (smx ex cc 96, smx ex cc 96 + kn cc, smx ex cc 96 + kn cc)) (by dsimp only; omega)
          refine g_aload_n dX9_codes_136 rfl ?_
          refine g_dup dX9_codes_137 rfl ?_
          refine z_getf fl_X9_107 dX9_codes_138 m_d rfl ?_
          refine z_iconst dX9_codes_141 ?_
          refine z_iadd dX9_codes_142 ?_
          refine z_putf fl_X9_107 dX9_codes_143 m_d rfl (Nat.le_of_ble_eq_true rfl) rfl rfl (fun M m_d o => ?_)
          have m_v := (o _ (by omega)).trans m_v
          have fr : (∀ x : Nat, ¬ (x = d ∨ x = d + 5 ∨ x = d + 6) → M x = M0 x) := fun x hx => (o x (by omega)).trans (fr x hx)
          have hm := hm.by_ (o _ (by omega))
          have hg := hg.by_ (o _ (by omega))
          have h := h.by_ (o _ (by omega))
          refine g_aload_n dX9_codes_146 rfl ?_
          refine g_iload dX9_codes_147 rfl ?_
          refine z_callVV dX9_codes_149 lm_X9_126 lk_X9_excludes (r_excludes m_d m_v hi250 hg hS2 hr) rfl rfl m_d rfl (mkRoom rfl rfl) (Nat.le_of_ble_eq_true rfl) (Nat.le_of_ble_eq_true rfl) (Nat.le_of_ble_eq_true rfl) (fun M r hp => ?_)
          obtain ⟨rfl, hg, o1⟩ := hp
          have m_d := (o1 _ (by omega)).trans m_d
          have m_v := (o1 _ (by omega)).trans m_v
          have h := h.by_ (o1 _ (by omega))
          have hm := hm.by_ (o1 _ (by omega))
          have hg := hg.cong (ex2 := lev (g 1) ex cc) (fun s hs => by rw [lev_v, lev_v, w1 s hs])
          have fr : (∀ x : Nat, ¬ (x = d ∨ x = d + 5 ∨ x = d + 6) → M x = M0 x) := fun x hx => (o1 x (by omega)).trans (fr x hx)
          refine z_iinc dX9_codes_152 rfl (Nat.le_of_ble_eq_true rfl) ?_
          refine g_goto (tgt := 26) dX9_codes_155 (by decide) ?_
          rw [show (k : Int) + -1 = (k : Int) - 1 by omega]
          refine ih (lev (g 1) ex cc) (L ++ [(smx ex cc 96, smx ex cc 96 + kn cc, smx ex cc 96 + kn cc)]) M (by rw [List.length_append, List.length_singleton]; omega) (by omega) (by omega) hes (fun x hx => ?_) hR ?_ ?_ m_v h hg ?_ fr _ _ _ _
          · rcases List.mem_append.mp hx with hx | hx
            · exact hL x hx
            · rw [List.mem_singleton] at hx; rw [hx]; exact hok
          · rw [ewf_snoc, List.length_append, List.length_singleton]
            exact hw.mono (by omega) (by omega)
          · rw [ewf_snoc, cst_snoc2, List.length_append, List.length_singleton, show ((L.length + 1 : Nat) : Int) = (L.length : Int) + 1 by omega]
            exact m_d
          · rw [ewf_snoc]
            exact hm
  refine g_aload_n dX9_codes_0 rfl ?_
  refine z_callVV dX9_codes_1 lm_X9_113 lk_X9_clears (r_clears m_d hg) rfl rfl m_d rfl (mkRoom rfl rfl) (Nat.le_of_ble_eq_true rfl) (Nat.le_of_ble_eq_true rfl) (Nat.le_of_ble_eq_true rfl) (fun M r hp => ?_)
  obtain ⟨rfl, m_d, hg, o1⟩ := hp
  have m_v := (o1 _ (by omega)).trans m_v
  have h := h.by_ (o1 _ (by omega))
  have hm := hm.by_ (o1 _ (by omega))
  have fr : (∀ x : Nat, ¬ (x = d ∨ x = d + 5 ∨ x = d + 6) → M x = M0 x) := fun x hx => (o1 x (by omega)).trans (fr x hx)
  refine g_iload_n dX9_codes_4 rfl ?_
  refine g_aload_n dX9_codes_5 rfl ?_
  refine z_getf fl_X9_7 dX9_codes_6 m_d rfl ?_
  refine z_iconst dX9_codes_9 ?_
  refine z_iaload (j := 0) dX9_codes_10 m_v rfl (by omega) (by omega) ?_
  refine z_icmp_ge (tgt := 18) dX9_codes_11 (by decide) (by omega) (by omega) (fun c11 => ?_) (fun c11 => ?_)
  · refine g_aload_n dX9_codes_18 rfl ?_
    refine z_getf fl_X9_7 dX9_codes_19 m_d rfl ?_
    refine z_iconst dX9_codes_22 ?_
    refine z_iaload (j := 0) dX9_codes_23 m_v rfl (by omega) (by omega) ?_
    refine g_istore dX9_codes_24 (Nat.le_of_ble_eq_true rfl) ?_
    have lp := fun K5 K6 K7 K8 => loop (route t xs n (g 1) (g 0) s) (nOrd (g 0) n) (fun _ => false) [] M (by unfold nOrd; dsimp only [List.length]; omega) (by unfold nOrd; omega) (by unfold nOrd; omega) rfl (fun x hx => absurd hx List.not_mem_nil) rfl (by rw [ewf_nil]; exact hw) (by rw [ewf_nil]; exact m_d) m_v h hg (by rw [ewf_nil]; exact hm) fr K5 K6 K7 K8
    rw [show ((nOrd (g 0) n : Nat) : Int) - 1 = (g 0) by unfold nOrd; omega] at lp
    exact lp _ _ _ _
  · refine g_iload_n dX9_codes_14 rfl ?_
    refine g_goto (tgt := 24) dX9_codes_15 (by decide) ?_
    refine g_istore dX9_codes_24 (Nat.le_of_ble_eq_true rfl) ?_
    have lp := fun K5 K6 K7 K8 => loop (route t xs n (g 1) (g 0) s) (nOrd (g 0) n) (fun _ => false) [] M (by unfold nOrd; dsimp only [List.length]; omega) (by unfold nOrd; omega) (by unfold nOrd; omega) rfl (fun x hx => absurd hx List.not_mem_nil) rfl (by rw [ewf_nil]; exact hw) (by rw [ewf_nil]; exact m_d) m_v h hg (by rw [ewf_nil]; exact hm) fr K5 K6 K7 K8
    rw [show ((nOrd (g 0) n : Nat) : Int) - 1 = (n : Int) by unfold nOrd; omega] at lp
    exact lp _ _ _ _
