/-! a text is coded, on trial -/
/-- the symbol at place k of a text; the end behind it -/
def sy (xs : List Int) (k : Nat) : Nat := if k < xs.length then (xs.getD k 0).toNat else 95
theorem sy_lt {xs : List Int} (h : okX xs) (k : Nat) : sy xs k < 96 := by
  unfold sy
  split
  · have := h.get k; omega
  · omega
theorem sy_in {xs : List Int} (h : okX xs) {k : Nat} (hk : k < xs.length) : ((sy xs k : Nat) : Int) = xs.getD k 0 := by
  unfold sy
  rw [if_pos hk]
  have := h.get k
  omega
theorem sy_end (xs : List Int) : sy xs xs.length = 95 := by unfold sy; rw [if_neg (by omega)]
abbrev cw : Type := tbl × List ac × es
def cstep (ord exc stp lim : Int) (xs : List Int) (w : cw) (k : Nat) : cw :=
  let R := route w.1 xs k exc ord (sy xs k)
  (incr w.1 (ky xs k) (sy xs k) stp lim (nOrd ord k), w.2.1 ++ [(cst R.1, (R.1.length : Int) - 1, R.2, (sy xs k : Int))], ecs w.2.2 R.1)
def crun (ord exc stp lim : Int) (xs : List Int) (t : tbl) : Nat → cw
  | 0 => (t, [], (0, 4294967296, [], 0))
  | k + 1 => cstep ord exc stp lim xs (crun ord exc stp lim xs t k) k
/-- the whole code of a text: the coder's state behind the end and the check -/
def cend (ord exc stp lim : Int) (xs : List Int) (t : tbl) : es := efin (eiv (crun ord exc stp lim xs t (xs.length + 1)).2.2 (chk xs, chk xs + 1, 65536))
theorem crun_ok {ord exc stp lim : Int} {xs : List Int} {t : tbl} (hS : okS ord exc stp lim) (hx : okX xs) (ht : okT t) : ∀ k : Nat, k ≤ xs.length + 1 → okT (crun ord exc stp lim xs t k).1 ∧ (crun ord exc stp lim xs t k).2.1.length = k ∧ okN (crun ord exc stp lim xs t k).2.2 (20 * k)
  | 0, _ => ⟨ht, rfl, ⟨by show (0 : Int) ≤ 0 ∧ (0 : Int) < 4294967296; omega, by show (16777216 : Int) < 4294967296 ∧ (4294967296 : Int) ≤ 4294967296; omega, (fun x hx => by cases hx), Nat.le_refl _, Int.le_refl _, Int.le_refl _⟩⟩
  | k + 1, hk => by
    obtain ⟨h1, h2, h3⟩ := crun_ok hS hx ht k (by omega)
    obtain ⟨hS1, hS2, hS3, hS4⟩ := hS
    have hno : nOrd ord k ≤ 4 ∧ ∀ j, j < nOrd ord k → j ≤ k ∧ j ≤ 3 := ⟨by unfold nOrd; omega, fun j hj => by unfold nOrd at hj; omega⟩
    have hpl := pln_ok (g := fun j => cnO (crun ord exc stp lim xs t k).1 (ky xs k j)) (exc := exc) (sy_lt hx k) (fun j d hj => h1.cnO hj) (nOrd ord k) (fun _ => false) [] rfl (by simp)
    have hN := okN_ecs _ h3 hpl.1
    refine ⟨okT_incr h1 (sy_lt hx k) hS3 hS4 (fun j hj => ky_rng hx (by omega) (hno.2 j hj).1 (hno.2 j hj).2), ?_, ?_⟩
    · show ((crun ord exc stp lim xs t k).2.1 ++ [_]).length = k + 1
      rw [List.length_append, h2]; rfl
    · have hl := hpl.2.1
      rw [List.length_nil] at hl
      exact hN.mono (by omega)
theorem okI_chk {xs : List Int} : okI (chk xs, chk xs + 1, 65536) := by have := chk_rng xs; exact ⟨by dsimp only; omega, by dsimp only; omega, by dsimp only; omega, by dsimp only; omega⟩
theorem Tls.off {M M' : pM} {c lo hi : Nat} {e : es} (h : Tls M c e) (ho : Off M M' lo hi) (hd : c + 130 ≤ lo ∨ hi ≤ c + 118) : Tls M' c e := by
  obtain ⟨⟨ex, ha⟩, ⟨L0, l0, hr⟩, he⟩ := h
  exact ⟨⟨_, ha.off ho (by omega)⟩, ⟨_, _, hr.off ho (by omega)⟩, he.off ho (by omega)⟩
def OfT (c : Nat) (M M' : pM) : Prop := ∀ x : Nat, ¬ ((c + 20 ≤ x ∧ x < c + 26) ∨ (c + 28 ≤ x ∧ x < c + 37) ∨ (c + 118 ≤ x ∧ x < c + 130)) → M' x = M x
theorem OfT.rf {c : Nat} {M : pM} : OfT c M M := fun _ _ => rfl
theorem OfT.tr {c : Nat} {M M1 M2 : pM} (h : OfT c M M1) (h2 : OfT c M1 M2) : OfT c M M2 := fun x hx => (h2 x hx).trans (h x hx)
theorem OfT.add {c lo hi : Nat} {M M1 M2 : pM} (h : OfT c M M1) (h2 : Off M1 M2 lo hi) (hd : (c + 20 ≤ lo ∧ hi ≤ c + 26) ∨ (c + 28 ≤ lo ∧ hi ≤ c + 37) ∨ (c + 118 ≤ lo ∧ hi ≤ c + 130)) : OfT c M M2 := fun x hx => (h2 x (by omega)).trans (h x hx)
theorem OfT.addC {c : Nat} {M M1 M2 : pM} (h : OfT c M M1) (h2 : OfC c M1 M2) : OfT c M M2 := fun x hx => (h2 x (by omega)).trans (h x hx)
theorem OfT.off {c lo hi : Nat} {M M' : pM} (h : OfT c M M') (h1 : lo ≤ c + 20) (h2 : c + 130 ≤ hi) : Off M M' lo hi := fun x hx => h x (by omega)
set_option maxHeartbeats 1000000 in
theorem x_codeOnTrial {M : pM} {z c q N : Nat} {kept ord exc stp lim lng o2 x2 p2 l2 g2 : Int} {t t2 : tbl} {code code2 res res2 xs : List Int} {A A2 : List ac} {e : es} (m_c : Cc M c kept) (hs : Stt M (c + 1) ord exc stp lim t code A lng res) (ht : okT t) (hS : okS ord exc stp lim) (h2 : Stt M (c + 20) o2 x2 p2 l2 t2 code2 A2 g2 res2) (hq : Rw M q N xs) (hqd : q = c + 37 ∨ q = c + 116) (hx : okX xs) (hxl : xs.length ≤ 200) (hT : Tls M c e) : CW I_X8_codeOnTrial yX8_codeOnTrial [.ref c, .ref q] M z (fun M' r => r = none ∧ Stt M' (c + 20) ord exc stp lim (crun ord exc stp lim xs t (xs.length + 1)).1 code2 (crun ord exc stp lim xs t (xs.length + 1)).2.1 (cend ord exc stp lim xs t).2.2.2 res2 ∧ Tls M' c (cend ord exc stp lim xs t) ∧ OfT c M M') := by
  have m_c : M c = _ := m_c
  have fr : OfT c M M := OfT.rf
  have hql := hq.len
  have hcr := fun k => crun_ok (xs := xs) hS hx ht k
  obtain ⟨m_n, n1, n2, n3, n4⟩ := id hs
  obtain ⟨m_s, hm, hcd, hl, hrs⟩ := id h2
  have m_q := hq.obj
  refine C.intro (pl := [some (.ref c), some (.ref q), none]) pn_X8 rfl (fun h => absurd h (by decide)) rfl (Nat.le_of_ble_eq_true rfl) rfl ?_
  have tail : ∀ (M1 : pM) (K : Option Value), Cc M1 c kept → M1 (c + 20) = some (ob 7 [vI ord, vI exc, vI stp, vI lim, .ref (c + 20 + 1), .ref (c + 20 + 6), .ref (c + 20 + 8), .ref (c + 20 + 17)]) → Md M1 (c + 21) (crun ord exc stp lim xs t (xs.length + 1)).1 → Rw M1 (c + 26) 400 code2 → Lg M1 (c + 28) (crun ord exc stp lim xs t (xs.length + 1)).2.1 0 → Rw M1 (c + 37) 200 res2 → Rw M1 q N xs → Tls M1 c (crun ord exc stp lim xs t (xs.length + 1)).2.2 → OfT c M M1 → G I_X8_codeOnTrial 0 0 (fun M' z' r' => z' = z ∧ r' = none ∧ Stt M' (c + 20) ord exc stp lim (crun ord exc stp lim xs t (xs.length + 1)).1 code2 (crun ord exc stp lim xs t (xs.length + 1)).2.1 (cend ord exc stp lim xs t).2.2.2 res2 ∧ Tls M' c (cend ord exc stp lim xs t) ∧ OfT c M M') 0 0 83 [some (.ref c), some (.ref q), K] [] M1 z := by
    intro M K m_c m_s hm hcd hl hrs hq hT fr
    have m_c : M c = _ := m_c
    have hck := chk_rng xs
    have hN := (hcr (xs.length + 1) (Nat.le_refl _)).2.2
    have hN2 := okN_eiv hN (okI_chk (xs := xs))
    obtain ⟨⟨ex, ha⟩, ⟨L0, lo, hr⟩, he⟩ := hT
    refine g_aload_n dX8_codeOnTrial_83 rfl ?_
    refine z_callSR dX8_codeOnTrial_84 lm_X8_241 lk_X8_checkNumber (x_checkNumber hq hx) rfl rfl (mkRoom rfl rfl) (Nat.le_of_ble_eq_true rfl) (Nat.le_of_ble_eq_true rfl) (Nat.le_of_ble_eq_true rfl) ?_
    refine g_istore_n dX8_codeOnTrial_87 rfl (Nat.le_of_ble_eq_true rfl) ?_
    refine g_aload_n dX8_codeOnTrial_88 rfl ?_
    refine z_getf fl_X8_53 dX8_codeOnTrial_89 m_c rfl ?_
    refine g_iload_n dX8_codeOnTrial_92 rfl ?_
    refine g_iload_n dX8_codeOnTrial_93 rfl ?_
    refine z_iconst dX8_codeOnTrial_94 ?_
    refine z_iadd dX8_codeOnTrial_95 ?_
    refine z_ldc (65536) dX8_codeOnTrial_96 kc_X8_245 rfl ?_
    refine z_callVV dX8_codeOnTrial_98 lm_X8_246 lk_X2_interval (En_interval he hN (by omega) okI_chk) rfl rfl he.1 rfl (mkRoom rfl rfl) (Nat.le_of_ble_eq_true rfl) (Nat.le_of_ble_eq_true rfl) (Nat.le_of_ble_eq_true rfl) (fun M r hp => ?_)
    obtain ⟨rfl, he, o1⟩ := hp
    have m_c := (o1 _ (by omega)).trans m_c
    have m_s := (o1 _ (by omega)).trans m_s
    have hm := hm.off o1 (by omega)
    have hcd := hcd.off o1 (by omega)
    have hl := hl.off o1 (by omega)
    have hrs := hrs.off o1 (by omega)
    have ha := ha.off o1 (by omega)
    have hr := hr.off o1 (by omega)
    have fr := fr.add o1 (by omega)
    refine g_aload_n dX8_codeOnTrial_101 rfl ?_
    refine z_getf fl_X8_53 dX8_codeOnTrial_102 m_c rfl ?_
    refine z_callVV dX8_codeOnTrial_105 lm_X8_250 lk_X2_finish (En_finish he hN2 (by omega)) rfl rfl he.1 rfl (mkRoom rfl rfl) (Nat.le_of_ble_eq_true rfl) (Nat.le_of_ble_eq_true rfl) (Nat.le_of_ble_eq_true rfl) (fun M r hp => ?_)
    obtain ⟨rfl, he, o1⟩ := hp
    have m_c := (o1 _ (by omega)).trans m_c
    have m_s := (o1 _ (by omega)).trans m_s
    have hm := hm.off o1 (by omega)
    have hcd := hcd.off o1 (by omega)
    have hl := hl.off o1 (by omega)
    have hrs := hrs.off o1 (by omega)
    have ha := ha.off o1 (by omega)
    have hr := hr.off o1 (by omega)
    have fr := fr.add o1 (by omega)
    obtain ⟨m_l, hl1, hl2, hl3, hl4⟩ := hl
    have m_en := he.1
    refine g_aload_n dX8_codeOnTrial_108 rfl ?_
    refine z_getf fl_X8_16 dX8_codeOnTrial_109 m_c rfl ?_
    refine z_getf fl_X8_152 dX8_codeOnTrial_112 m_s rfl ?_
    refine g_aload_n dX8_codeOnTrial_115 rfl ?_
    refine z_getf fl_X8_53 dX8_codeOnTrial_116 m_c rfl ?_
    refine z_getf fl_X8_253 dX8_codeOnTrial_119 m_en rfl ?_
    refine z_putf fl_X8_170 dX8_codeOnTrial_122 m_l rfl (Nat.le_of_ble_eq_true rfl) rfl rfl (fun M m_l o => ?_)
    have m_c := (o _ (by omega)).trans m_c
    have m_s := (o _ (by omega)).trans m_s
    have m_en := (o _ (by omega)).trans m_en
    have o1 : Off _ M (c + 28) (c + 29) := fun x hx => o x (by omega)
    exact g_return dX8_codeOnTrial_125 rfl (Nat.le_of_ble_eq_true rfl) (Nat.le_of_ble_eq_true rfl) ⟨rfl, rfl, ⟨m_s, hm.off o1 (by omega), hcd.off o1 (by omega), ⟨m_l, hl1.off o1 (by omega), hl2.off o1 (by omega), hl3.off o1 (by omega), hl4.off o1 (by omega)⟩, hrs.off o1 (by omega)⟩, ⟨⟨_, ha.off o1 (by omega)⟩, ⟨_, _, hr.off o1 (by omega)⟩, he.off o1 (by omega)⟩, fr.add o1 (by omega)⟩
  have loop : ∀ (k i : Nat) (M1 : pM), i ≤ xs.length → xs.length - i = k → Cc M1 c kept → M1 (c + 20) = some (ob 7 [vI ord, vI exc, vI stp, vI lim, .ref (c + 20 + 1), .ref (c + 20 + 6), .ref (c + 20 + 8), .ref (c + 20 + 17)]) → Md M1 (c + 21) (crun ord exc stp lim xs t i).1 → Rw M1 (c + 26) 400 code2 → Lg M1 (c + 28) (crun ord exc stp lim xs t i).2.1 0 → Rw M1 (c + 37) 200 res2 → Rw M1 q N xs → Tls M1 c (crun ord exc stp lim xs t i).2.2 → OfT c M M1 → G I_X8_codeOnTrial 0 0 (fun M' z' r' => z' = z ∧ r' = none ∧ Stt M' (c + 20) ord exc stp lim (crun ord exc stp lim xs t (xs.length + 1)).1 code2 (crun ord exc stp lim xs t (xs.length + 1)).2.1 (cend ord exc stp lim xs t).2.2.2 res2 ∧ Tls M' c (cend ord exc stp lim xs t) ∧ OfT c M M') 0 0 47 [some (.ref c), some (.ref q), some (vI (i : Int))] [] M1 z := by
    intro k
    induction k with
    | zero =>
      intro i M hi hk m_c m_s hm hcd hl hrs hq hT fr
      have m_c : M c = _ := m_c
      have m_q := hq.obj
      have e0 : i = xs.length := by omega
      subst e0
      have hcw := hcr xs.length (by omega)
      refine g_iload_n dX8_codeOnTrial_47 rfl ?_
      refine g_aload_n dX8_codeOnTrial_48 rfl ?_
      refine z_getf fl_X8_102 dX8_codeOnTrial_49 m_q rfl ?_
      refine z_icmp_ge (tgt := 72) dX8_codeOnTrial_52 (by decide) (by omega) (by omega) (fun c52 => ?_) (fun c52 => absurd c52 (by omega))
      refine g_aload_n dX8_codeOnTrial_72 rfl ?_
      refine g_aload_n dX8_codeOnTrial_73 rfl ?_
      refine g_aload_n dX8_codeOnTrial_74 rfl ?_
      refine z_getf fl_X8_102 dX8_codeOnTrial_75 m_q rfl ?_
      refine z_bipush dX8_codeOnTrial_78 (by decide +kernel) ?_
      refine z_callVV dX8_codeOnTrial_80 lm_X8_238 lk_X8_codeSymbol (x_codeSymbol (n := xs.length) (s := 95) m_c m_s hm hcw.1 hS hl (by omega) hq hqd hx (by omega) (by omega) hT hcw.2.2 (by omega)) rfl rfl m_c rfl (mkRoom rfl rfl) (Nat.le_of_ble_eq_true rfl) (Nat.le_of_ble_eq_true rfl) (Nat.le_of_ble_eq_true rfl) (fun M r hp => ?_)
      obtain ⟨rfl, hm, hl, hT, o1⟩ := hp
      have m_c := (o1 _ (by omega)).trans m_c
      have m_s := (o1 _ (by omega)).trans m_s
      have hq := hq.offC o1 (by omega)
      have hcd := hcd.offC o1 (by omega)
      have hrs := hrs.offC o1 (by omega)
      have fr := fr.addC o1
      exact tail M _ m_c m_s (by rw [crun]; unfold cstep; rw [sy_end]; exact hm) hcd (by rw [crun]; unfold cstep; rw [sy_end]; exact hl) hrs hq (by rw [crun]; unfold cstep; rw [sy_end]; exact hT) fr
    | succ k ih =>
      intro i M hi hk m_c m_s hm hcd hl hrs hq hT fr
      have m_c : M c = _ := m_c
      have m_q := hq.obj
      have hcw := hcr i (by omega)
      have hsy := sy_in hx (k := i) (by omega)
      have hsl := sy_lt hx i
      have ih2 := fun M2 => ih (i + 1) M2 (by omega) (by omega)
      rw [crun] at ih2
      unfold cstep at ih2
      refine g_iload_n dX8_codeOnTrial_47 rfl ?_
      refine g_aload_n dX8_codeOnTrial_48 rfl ?_
      refine z_getf fl_X8_102 dX8_codeOnTrial_49 m_q rfl ?_
      refine z_icmp_ge (tgt := 72) dX8_codeOnTrial_52 (by decide) (by omega) (by omega) (fun c52 => absurd c52 (by omega)) (fun c52 => ?_)
      refine g_aload_n dX8_codeOnTrial_55 rfl ?_
      refine g_aload_n dX8_codeOnTrial_56 rfl ?_
      refine g_iload_n dX8_codeOnTrial_57 rfl ?_
      refine g_aload_n dX8_codeOnTrial_58 rfl ?_
      refine g_iload_n dX8_codeOnTrial_59 rfl ?_
      refine z_callVR dX8_codeOnTrial_60 lm_X8_105 lk_X6_item ((Row_item (j := i) hq (by omega)).eq (by rw [← hsy])) rfl rfl hq.obj rfl (mkRoom rfl rfl) (Nat.le_of_ble_eq_true rfl) (Nat.le_of_ble_eq_true rfl) (Nat.le_of_ble_eq_true rfl) ?_
      refine z_callVV dX8_codeOnTrial_63 lm_X8_238 lk_X8_codeSymbol (x_codeSymbol (n := i) (s := sy xs i) m_c m_s hm hcw.1 hS hl (by omega) hq hqd hx (by omega) (hsl) hT hcw.2.2 (by omega)) rfl rfl m_c rfl (mkRoom rfl rfl) (Nat.le_of_ble_eq_true rfl) (Nat.le_of_ble_eq_true rfl) (Nat.le_of_ble_eq_true rfl) (fun M r hp => ?_)
      obtain ⟨rfl, hm, hl, hT, o1⟩ := hp
      have m_c := (o1 _ (by omega)).trans m_c
      have m_s := (o1 _ (by omega)).trans m_s
      have hq := hq.offC o1 (by omega)
      have hcd := hcd.offC o1 (by omega)
      have hrs := hrs.offC o1 (by omega)
      have fr := fr.addC o1
      refine z_iinc dX8_codeOnTrial_66 rfl (Nat.le_of_ble_eq_true rfl) ?_
      refine g_goto (tgt := 47) dX8_codeOnTrial_69 (by decide) ?_
      exact ih2 M m_c m_s hm hcd hl hrs hq hT fr
  have m_tr := m_s
  have m_now := m_n
  refine g_aload_n dX8_codeOnTrial_0 rfl ?_
  refine z_getf fl_X8_16 dX8_codeOnTrial_1 m_c rfl ?_
  refine g_aload_n dX8_codeOnTrial_4 rfl ?_
  refine z_getf fl_X8_12 dX8_codeOnTrial_5 m_c rfl ?_
  refine z_callVV dX8_codeOnTrial_8 lm_X8_231 lk_X7_takeSettings (Stt_settings h2 hs hS.2.1 (by omega)) rfl rfl m_tr rfl (mkRoom rfl rfl) (Nat.le_of_ble_eq_true rfl) (Nat.le_of_ble_eq_true rfl) (Nat.le_of_ble_eq_true rfl) (fun M r hp => ?_)
  obtain ⟨rfl, h2, o1⟩ := hp
  have m_c := (o1 _ (by omega)).trans m_c
  have hq := hq.off o1 (by omega)
  have hT := hT.off o1 (by omega)
  have hs := hs.off o1 (by omega)
  obtain ⟨m_now, n1, n2, n3, n4⟩ := id hs
  obtain ⟨m_tr, hm, hcd, hl, hrs⟩ := id h2
  have fr := fr.add o1 (by omega)
  refine g_aload_n dX8_codeOnTrial_11 rfl ?_
  refine z_getf fl_X8_16 dX8_codeOnTrial_12 m_c rfl ?_
  refine z_getf fl_X8_85 dX8_codeOnTrial_15 m_tr rfl ?_
  refine g_aload_n dX8_codeOnTrial_18 rfl ?_
  refine z_getf fl_X8_12 dX8_codeOnTrial_19 m_c rfl ?_
  refine z_getf fl_X8_85 dX8_codeOnTrial_22 m_now rfl ?_
  refine z_callVV dX8_codeOnTrial_25 lm_X8_148 lk_X4_take (Md_take hm n1 (by omega)) rfl rfl hm.obj rfl (mkRoom rfl rfl) (Nat.le_of_ble_eq_true rfl) (Nat.le_of_ble_eq_true rfl) (Nat.le_of_ble_eq_true rfl) (fun M r hp => ?_)
  obtain ⟨rfl, hm, o1⟩ := hp
  have hl := hl.off o1 (by omega)
  have hT := hT.off o1 (by omega)
  have m_c := (o1 _ (by omega)).trans m_c
  have m_tr := (o1 _ (by omega)).trans m_tr
  have hcd := hcd.off o1 (by omega)
  have hrs := hrs.off o1 (by omega)
  have hq := hq.off o1 (by omega)
  have fr := fr.add o1 (by omega)
  refine g_aload_n dX8_codeOnTrial_28 rfl ?_
  refine z_getf fl_X8_16 dX8_codeOnTrial_29 m_c rfl ?_
  refine z_getf fl_X8_152 dX8_codeOnTrial_32 m_tr rfl ?_
  refine z_callVV dX8_codeOnTrial_35 lm_X8_234 lk_X3_clear (Lg_clear hl) rfl rfl hl.1 rfl (mkRoom rfl rfl) (Nat.le_of_ble_eq_true rfl) (Nat.le_of_ble_eq_true rfl) (Nat.le_of_ble_eq_true rfl) (fun M r hp => ?_)
  obtain ⟨rfl, hl, o1⟩ := hp
  have hm := hm.off o1 (by omega)
  have hT := hT.off o1 (by omega)
  have m_c := (o1 _ (by omega)).trans m_c
  have m_tr := (o1 _ (by omega)).trans m_tr
  have hcd := hcd.off o1 (by omega)
  have hrs := hrs.off o1 (by omega)
  have hq := hq.off o1 (by omega)
  have fr := fr.add o1 (by omega)
  refine g_aload_n dX8_codeOnTrial_38 rfl ?_
  refine z_getf fl_X8_53 dX8_codeOnTrial_39 m_c rfl ?_
  refine z_callVV dX8_codeOnTrial_42 lm_X8_235 lk_X2_begin (En_begin hT.2.2) rfl rfl hT.2.2.1 rfl (mkRoom rfl rfl) (Nat.le_of_ble_eq_true rfl) (Nat.le_of_ble_eq_true rfl) (Nat.le_of_ble_eq_true rfl) (fun M r hp => ?_)
  obtain ⟨⟨ex, ha⟩, ⟨L0, lo, hr⟩, -⟩ := hT
  obtain ⟨rfl, he, o1⟩ := hp
  have hm := hm.off o1 (by omega)
  have hl := hl.off o1 (by omega)
  have ha := ha.off o1 (by omega)
  have hr := hr.off o1 (by omega)
  have m_c := (o1 _ (by omega)).trans m_c
  have m_tr := (o1 _ (by omega)).trans m_tr
  have hcd := hcd.off o1 (by omega)
  have hrs := hrs.off o1 (by omega)
  have hq := hq.off o1 (by omega)
  have fr := fr.add o1 (by omega)
  refine z_iconst dX8_codeOnTrial_45 ?_
  refine g_istore_n dX8_codeOnTrial_46 rfl (Nat.le_of_ble_eq_true rfl) ?_
  exact loop xs.length 0 M (Nat.zero_le _) (by omega) m_c m_tr hm hcd hl hrs hq ⟨⟨_, ha⟩, ⟨_, _, hr⟩, he⟩ fr
