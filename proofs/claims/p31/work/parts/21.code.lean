/-! a symbol is coded, on trial -/
def ecs (e : es) (L : List iv) : es := L.foldl eiv e
theorem ecs_snoc (e : es) (L : List iv) (x : iv) : ecs e (L ++ [x]) = eiv (ecs e L) x := by unfold ecs; rw [List.foldl_append]; rfl
theorem okN.mono {e : es} {n m : Nat} (h : okN e n) (hm : n ≤ m) : okN e m := ⟨h.1, h.2.1, h.2.2.1, by have := h.2.2.2.1; omega, h.2.2.2.2.1, by have := h.2.2.2.2.2; omega⟩
theorem okN_ecs : ∀ (L : List iv) {e : es} {n : Nat}, okN e n → (∀ x ∈ L, okI x) → okN (ecs e L) (n + 4 * L.length)
  | [], e, n, h, _ => h
  | x :: L, e, n, h, hx => by
    have h1 := okN_eiv h (hx x List.mem_cons_self)
    have h2 := okN_ecs L h1 (fun y hy => hx y (List.mem_cons_of_mem _ hy))
    show okN (ecs (eiv e x) L) _
    exact h2.mono (by rw [List.length_cons]; omega)
/-- what coding on trial may change -/
def OfC (c : Nat) (M M' : pM) : Prop := ∀ x : Nat, ¬ ((c + 21 ≤ x ∧ x < c + 26) ∨ (c + 28 ≤ x ∧ x < c + 37) ∨ (c + 118 ≤ x ∧ x < c + 130)) → M' x = M x
theorem OfC.rf {c : Nat} {M : pM} : OfC c M M := fun _ _ => rfl
theorem OfC.tr {c : Nat} {M M1 M2 : pM} (h : OfC c M M1) (h2 : OfC c M1 M2) : OfC c M M2 := fun x hx => (h2 x hx).trans (h x hx)
theorem OfC.add {c lo hi : Nat} {M M1 M2 : pM} (h : OfC c M M1) (h2 : Off M1 M2 lo hi) (hd : (c + 21 ≤ lo ∧ hi ≤ c + 26) ∨ (c + 28 ≤ lo ∧ hi ≤ c + 37) ∨ (c + 118 ≤ lo ∧ hi ≤ c + 130)) : OfC c M M2 := fun x hx => (h2 x (by omega)).trans (h x hx)
theorem Rw.offC {c q N : Nat} {M M' : pM} {xs : List Int} (h : Rw M q N xs) (ho : OfC c M M') (hd : q + 2 ≤ c + 21 ∨ q = c + 26 ∨ (c + 37 ≤ q ∧ q + 2 ≤ c + 118) ∨ c + 130 ≤ q) : Rw M' q N xs := by
  obtain ⟨g, h1, h2, h3⟩ := h
  exact ⟨g, (ho q (by omega)).trans h1, (ho (q + 1) (by omega)).trans h2, h3⟩
/-- the tools of coding: candidates, route, encoder -/
def Tls (M : pM) (c : Nat) (e : es) : Prop := (∃ ex, Ca M (c + 118) ex) ∧ (∃ L lo, Rt M (c + 120) L lo) ∧ En M (c + 127) e.1 e.2.1 e.2.2.1 e.2.2.2
set_option maxHeartbeats 1000000 in
theorem x_codeSymbol {M : pM} {z c q N n s m : Nat} {kept ord exc stp lim lng : Int} {r3 : Value} {t : tbl} {A : List ac} {xs : List Int} {e : es} (m_c : Cc M c kept) (m_s : M (c + 20) = some (ob 7 [vI ord, vI exc, vI stp, vI lim, .ref (c + 21), .ref (c + 26), .ref (c + 28), r3])) (hm : Md M (c + 21) t) (ht : okT t) (hS : okS ord exc stp lim) (hl : Lg M (c + 28) A lng) (hA : A.length < 201) (hq : Rw M q N xs) (hqd : q = c + 37 ∨ q = c + 116) (hx : okX xs) (hn : n ≤ xs.length) (hs : s < 96) (hT : Tls M c e) (hN : okN e m) (hm4 : m ≤ 4000) : CW I_X8_codeSymbol yX8_codeSymbol [.ref c, .ref q, vI (n : Int), vI (s : Int)] M z (fun M' r => r = none ∧ Md M' (c + 21) (incr t (ky xs n) s stp lim (nOrd ord n)) ∧ Lg M' (c + 28) (A ++ [(cst (route t xs n exc ord s).1, ((route t xs n exc ord s).1.length : Int) - 1, (route t xs n exc ord s).2, (s : Int))]) lng ∧ Tls M' c (ecs e (route t xs n exc ord s).1) ∧ OfC c M M') := by
  have m_c : M c = _ := m_c
  have fr : OfC c M M := OfC.rf
  have hql := hq.len
  have hS0 := id hS
  have hno : nOrd ord n ≤ 4 := by obtain ⟨hS1, -⟩ := hS0; unfold nOrd; omega
  obtain ⟨⟨ex, ha⟩, ⟨L0, lo, hr⟩, he⟩ := hT
  have hpl := pln_ok (g := fun j => cnO t (ky xs n j)) (exc := exc) hs (fun j d hj => ht.cnO hj) (nOrd ord n) (fun _ => false) [] rfl (by simp)
  generalize hrt : route t xs n exc ord s = R
  have hpl : (∀ x ∈ R.1, okI x) ∧ R.1.length ≤ 0 + nOrd ord n + 1 ∧ 0 + 1 ≤ R.1.length ∧ -1 ≤ R.2 ∧ R.2 < nOrd ord n := by rw [← hrt]; exact hpl
  refine C.intro (pl := [some (.ref c), some (.ref q), some (vI (n : Int)), some (vI (s : Int)), none]) pn_X8 rfl (fun h => absurd h (by decide)) rfl (Nat.le_of_ble_eq_true rfl) rfl ?_
  have loop : ∀ (k i : Nat) (ex : Nat → Bool) (M1 : pM), i ≤ R.1.length → R.1.length - i = k → Cc M1 c kept → M1 (c + 20) = some (ob 7 [vI ord, vI exc, vI stp, vI lim, .ref (c + 21), .ref (c + 26), .ref (c + 28), r3]) → Md M1 (c + 21) t → Lg M1 (c + 28) A lng → Rw M1 q N xs → Ca M1 (c + 118) ex → Rt M1 (c + 120) R.1 R.2 → En M1 (c + 127) (ecs e (R.1.take i)).1 (ecs e (R.1.take i)).2.1 (ecs e (R.1.take i)).2.2.1 (ecs e (R.1.take i)).2.2.2 → OfC c M M1 → G I_X8_codeSymbol 0 0 (fun M' z' r' => z' = z ∧ r' = none ∧ Md M' (c + 21) (incr t (ky xs n) s stp lim (nOrd ord n)) ∧ Lg M' (c + 28) (A ++ [(cst R.1, (R.1.length : Int) - 1, R.2, (s : Int))]) lng ∧ Tls M' c (ecs e R.1) ∧ OfC c M M') 0 0 14 [some (.ref c), some (.ref q), some (vI (n : Int)), some (vI (s : Int)), some (vI (i : Int))] [] M1 z := by
    intro k
    induction k with
    | zero =>
      intro i ex M hi hk m_c m_s hm hl hq ha hr he fr
      have m_c : M c = _ := m_c
      have e0 : i = R.1.length := by omega
      subst e0
      rw [List.take_length] at he
      have m_rt := hr.1
      have m_l := hl.1
      refine g_iload dX8_codeSymbol_14 rfl ?_
      refine g_aload_n dX8_codeSymbol_16 rfl ?_
      refine z_getf fl_X8_46 dX8_codeSymbol_17 m_c rfl ?_
      refine z_callVR dX8_codeSymbol_20 lm_X8_254 lk_X5_size (Rt_size hr) rfl rfl m_rt rfl (mkRoom rfl rfl) (Nat.le_of_ble_eq_true rfl) (Nat.le_of_ble_eq_true rfl) (Nat.le_of_ble_eq_true rfl) ?_
      refine z_icmp_ge (tgt := 75) dX8_codeSymbol_23 (by decide) (by omega) (by omega) (fun c23 => ?_) (fun c23 => absurd c23 (by omega))
      refine g_aload_n dX8_codeSymbol_75 rfl ?_
      refine z_getf fl_X8_16 dX8_codeSymbol_76 m_c rfl ?_
      refine z_getf fl_X8_152 dX8_codeSymbol_79 m_s rfl ?_
      refine g_aload_n dX8_codeSymbol_82 rfl ?_
      refine z_getf fl_X8_46 dX8_codeSymbol_83 m_c rfl ?_
      refine z_callVR dX8_codeSymbol_86 lm_X8_129 lk_X5_sumOfCosts (Rt_cost hr (fun x hx => by obtain ⟨u1, u2, u3, u4⟩ := hpl.1 x hx; omega)) rfl rfl m_rt rfl (mkRoom rfl rfl) (Nat.le_of_ble_eq_true rfl) (Nat.le_of_ble_eq_true rfl) (Nat.le_of_ble_eq_true rfl) ?_
      refine g_aload_n dX8_codeSymbol_89 rfl ?_
      refine z_getf fl_X8_46 dX8_codeSymbol_90 m_c rfl ?_
      refine z_callVR dX8_codeSymbol_93 lm_X8_254 lk_X5_size (Rt_size hr) rfl rfl m_rt rfl (mkRoom rfl rfl) (Nat.le_of_ble_eq_true rfl) (Nat.le_of_ble_eq_true rfl) (Nat.le_of_ble_eq_true rfl) ?_
      refine z_iconst dX8_codeSymbol_96 ?_
      refine z_isub dX8_codeSymbol_97 ?_
      refine g_aload_n dX8_codeSymbol_98 rfl ?_
      refine z_getf fl_X8_46 dX8_codeSymbol_99 m_c rfl ?_
      refine z_getf fl_X8_265 dX8_codeSymbol_102 m_rt rfl ?_
      refine g_iload_n dX8_codeSymbol_105 rfl ?_
      refine z_callVV dX8_codeSymbol_106 lm_X8_266 lk_X3_add (Lg_add hl hA) rfl rfl m_l rfl (mkRoom rfl rfl) (Nat.le_of_ble_eq_true rfl) (Nat.le_of_ble_eq_true rfl) (Nat.le_of_ble_eq_true rfl) (fun M r hp => ?_)
      obtain ⟨rfl, hl, o1⟩ := hp
      have hm := hm.off o1 (by omega)
      have m_c := (o1 _ (by omega)).trans m_c
      have m_s := (o1 _ (by omega)).trans m_s
      have hq := hq.off o1 (by omega)
      have ha := ha.off o1 (by omega)
      have hr := hr.off o1 (by omega)
      have he := he.off o1 (by omega)
      have fr := fr.add o1 (by omega)
      refine g_aload_n dX8_codeSymbol_109 rfl ?_
      refine z_getf fl_X8_16 dX8_codeSymbol_110 m_c rfl ?_
      refine g_aload_n dX8_codeSymbol_113 rfl ?_
      refine g_iload_n dX8_codeSymbol_114 rfl ?_
      refine g_iload_n dX8_codeSymbol_115 rfl ?_
      refine z_callVV dX8_codeSymbol_116 lm_X8_109 lk_X7_increase (Stt_increase m_s hm ht hS hq hx hn hs (by omega)) rfl rfl m_s rfl (mkRoom rfl rfl) (Nat.le_of_ble_eq_true rfl) (Nat.le_of_ble_eq_true rfl) (Nat.le_of_ble_eq_true rfl) (fun M r hp => ?_)
      obtain ⟨rfl, hm, o1⟩ := hp
      have hl := hl.off o1 (by omega)
      have m_c := (o1 _ (by omega)).trans m_c
      have m_s := (o1 _ (by omega)).trans m_s
      have hq := hq.off o1 (by omega)
      have ha := ha.off o1 (by omega)
      have hr := hr.off o1 (by omega)
      have he := he.off o1 (by omega)
      have fr := fr.add o1 (by omega)
      exact g_return dX8_codeSymbol_119 rfl (Nat.le_of_ble_eq_true rfl) (Nat.le_of_ble_eq_true rfl) ⟨rfl, rfl, hm, hl, ⟨⟨_, ha⟩, ⟨_, _, hr⟩, he⟩, fr⟩
    | succ k ih =>
      intro i ex M hi hk m_c m_s hm hl hq ha hr he fr
      have m_c : M c = _ := m_c
      have hi2 : i < R.1.length := by omega
      have m_rt := hr.1
      have hxi := hpl.1 _ (List.getElem_mem hi2)
      have hNi := okN_ecs (R.1.take i) hN (fun x hx => hpl.1 x (List.mem_of_mem_take hx))
      rw [List.length_take] at hNi
      have ih2 := fun M2 => ih (i + 1) ex M2 (by omega) (by omega)
      rw [List.take_succ, List.getElem?_eq_getElem hi2, Option.toList_some, ecs_snoc] at ih2
      have e1 := getD_map (fun x : iv => x.1) R.1 hi2
      have e2 := getD_map (fun x : iv => x.2.1) R.1 hi2
      have e3 := getD_map (fun x : iv => x.2.2) R.1 hi2
      refine g_iload dX8_codeSymbol_14 rfl ?_
      refine g_aload_n dX8_codeSymbol_16 rfl ?_
      refine z_getf fl_X8_46 dX8_codeSymbol_17 m_c rfl ?_
      refine z_callVR dX8_codeSymbol_20 lm_X8_254 lk_X5_size (Rt_size hr) rfl rfl m_rt rfl (mkRoom rfl rfl) (Nat.le_of_ble_eq_true rfl) (Nat.le_of_ble_eq_true rfl) (Nat.le_of_ble_eq_true rfl) ?_
      refine z_icmp_ge (tgt := 75) dX8_codeSymbol_23 (by decide) (by omega) (by omega) (fun c23 => absurd c23 (by omega)) (fun c23 => ?_)
      refine g_aload_n dX8_codeSymbol_26 rfl ?_
      refine z_getf fl_X8_53 dX8_codeSymbol_27 m_c rfl ?_
      refine g_aload_n dX8_codeSymbol_30 rfl ?_
      refine z_getf fl_X8_46 dX8_codeSymbol_31 m_c rfl ?_
      refine z_getf fl_X8_256 dX8_codeSymbol_34 m_rt rfl ?_
      refine g_iload dX8_codeSymbol_37 rfl ?_
      refine z_callVR dX8_codeSymbol_39 lm_X8_105 lk_X6_item ((Row_item (j := i) hr.2.1 (by omega)).eq (by rw [e1])) rfl rfl (Rw.obj hr.2.1) rfl (mkRoom rfl rfl) (Nat.le_of_ble_eq_true rfl) (Nat.le_of_ble_eq_true rfl) (Nat.le_of_ble_eq_true rfl) ?_
      refine g_aload_n dX8_codeSymbol_42 rfl ?_
      refine z_getf fl_X8_46 dX8_codeSymbol_43 m_c rfl ?_
      refine z_getf fl_X8_259 dX8_codeSymbol_46 m_rt rfl ?_
      refine g_iload dX8_codeSymbol_49 rfl ?_
      refine z_callVR dX8_codeSymbol_51 lm_X8_105 lk_X6_item ((Row_item (j := i) hr.2.2.1 (by omega)).eq (by rw [e2])) rfl rfl (Rw.obj hr.2.2.1) rfl (mkRoom rfl rfl) (Nat.le_of_ble_eq_true rfl) (Nat.le_of_ble_eq_true rfl) (Nat.le_of_ble_eq_true rfl) ?_
      refine g_aload_n dX8_codeSymbol_54 rfl ?_
      refine z_getf fl_X8_46 dX8_codeSymbol_55 m_c rfl ?_
      refine z_getf fl_X8_262 dX8_codeSymbol_58 m_rt rfl ?_
      refine g_iload dX8_codeSymbol_61 rfl ?_
      refine z_callVR dX8_codeSymbol_63 lm_X8_105 lk_X6_item ((Row_item (j := i) hr.2.2.2 (by omega)).eq (by rw [e3])) rfl rfl (Rw.obj hr.2.2.2) rfl (mkRoom rfl rfl) (Nat.le_of_ble_eq_true rfl) (Nat.le_of_ble_eq_true rfl) (Nat.le_of_ble_eq_true rfl) ?_
      refine z_callVV dX8_codeSymbol_66 lm_X8_246 lk_X2_interval (En_interval (n := m + 4 * min i R.1.length) he hNi (by omega) hxi) rfl rfl he.1 rfl (mkRoom rfl rfl) (Nat.le_of_ble_eq_true rfl) (Nat.le_of_ble_eq_true rfl) (Nat.le_of_ble_eq_true rfl) (fun M r hp => ?_)
      obtain ⟨rfl, he, o1⟩ := hp
      have m_c := (o1 _ (by omega)).trans m_c
      have m_s := (o1 _ (by omega)).trans m_s
      have hm := hm.off o1 (by omega)
      have hl := hl.off o1 (by omega)
      have hq := hq.off o1 (by omega)
      have ha := ha.off o1 (by omega)
      have hr := hr.off o1 (by omega)
      have fr := fr.add o1 (by omega)
      refine z_iinc dX8_codeSymbol_69 rfl (Nat.le_of_ble_eq_true rfl) ?_
      refine g_goto (tgt := 14) dX8_codeSymbol_72 (by decide) ?_
      exact ih2 M m_c m_s hm hl hq ha hr he fr
  refine g_aload_n dX8_codeSymbol_0 rfl ?_
  refine g_aload_n dX8_codeSymbol_1 rfl ?_
  refine z_getf fl_X8_16 dX8_codeSymbol_2 m_c rfl ?_
  refine g_aload_n dX8_codeSymbol_5 rfl ?_
  refine g_iload_n dX8_codeSymbol_6 rfl ?_
  refine g_iload_n dX8_codeSymbol_7 rfl ?_
  refine z_callVV dX8_codeSymbol_8 lm_X8_125 lk_X8_plan (x_plan m_c m_s hm ht hS hq hx hn hs ha hr (by omega) (by omega)) rfl rfl m_c rfl (mkRoom rfl rfl) (Nat.le_of_ble_eq_true rfl) (Nat.le_of_ble_eq_true rfl) (Nat.le_of_ble_eq_true rfl) (fun M r hp => ?_)
  obtain ⟨rfl, hr, ⟨ex, ha⟩, o1⟩ := hp
  rw [hrt] at hr
  have m_c := (o1 _ (by omega)).trans m_c
  have m_s := (o1 _ (by omega)).trans m_s
  have hm := hm.off o1 (by omega)
  have hl := hl.off o1 (by omega)
  have hq := hq.off o1 (by omega)
  have he := he.off o1 (by omega)
  have fr := fr.add o1 (by omega)
  refine z_iconst dX8_codeSymbol_11 ?_
  refine g_istore dX8_codeSymbol_12 (Nat.le_of_ble_eq_true rfl) ?_
  exact loop R.1.length 0 ex M (Nat.zero_le _) (by omega) m_c m_s hm hl hq ha hr (by rw [List.take_zero]; exact he) fr
