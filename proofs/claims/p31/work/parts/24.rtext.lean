/-! a code is decoded, on trial -/
def drun (ord exc stp lim : Int) (cs : List Int) : Nat → tbl → List Int → ds → Int × tbl × List Int
  | 0, t, ys, _ => (1, t, ys)
  | n + 1, t, ys, d =>
    if (rd t ys ys.length exc ord cs d).1 < 0 then (3, t, ys)
    else if (rd t ys ys.length exc ord cs d).1 = 95 then (if dnum (rd t ys ys.length exc ord cs d).2 65536 = chk ys then 0 else 2, t, ys)
    else drun ord exc stp lim cs n (incr t (ky ys ys.length) (rd t ys ys.length exc ord cs d).1.toNat stp lim (nOrd ord ys.length)) (ys ++ [(rd t ys ys.length exc ord cs d).1]) (rd t ys ys.length exc ord cs d).2
theorem okD_beg (cs : List Int) : okD (dbeg cs) 4 := ⟨Nat.le_refl _, ⟨Int.emod_nonneg _ (by decide), Int.emod_lt_of_pos _ (by decide)⟩, by show (16777216 : Int) < 4294967296; decide, by show (4294967296 : Int) ≤ 4294967296; decide⟩
theorem okX.snoc {xs : List Int} (h : okX xs) {v : Int} (hv : 0 ≤ v ∧ v < 95) : okX (xs ++ [v]) := fun x hx => by
  rcases List.mem_append.mp hx with hx | hx
  · exact h x hx
  · rw [List.mem_singleton] at hx; subst hx; exact hv
def OfD (c : Nat) (M M' : pM) : Prop := ∀ x : Nat, ¬ ((c + 20 ≤ x ∧ x < c + 39) ∨ (c + 118 ≤ x ∧ x < c + 120) ∨ x = c + 130) → M' x = M x
theorem OfD.rf {c : Nat} {M : pM} : OfD c M M := fun _ _ => rfl
theorem OfD.add {c lo hi : Nat} {M M1 M2 : pM} (h : OfD c M M1) (h2 : Off M1 M2 lo hi) (hd : (c + 20 ≤ lo ∧ hi ≤ c + 39) ∨ (c + 118 ≤ lo ∧ hi ≤ c + 120) ∨ (lo = c + 130 ∧ hi = c + 131)) : OfD c M M2 := fun x hx => (h2 x (by omega)).trans (h x hx)
theorem OfD.addR {c : Nat} {M M1 M2 : pM} (h : OfD c M M1) (h2 : OfR c M1 M2) : OfD c M M2 := fun x hx => (h2 x (by omega)).trans (h x hx)
theorem OfR.off2 {c : Nat} {M M' : pM} (h : OfR c M M') {lo hi : Nat} (h1 : lo ≤ c + 118) (h2 : c + 131 ≤ hi) : Off M M' lo hi := fun x hx => h x (by omega)
set_option maxHeartbeats 1000000 in
theorem x_readOnTrial {M : pM} {z c : Nat} {kept ord exc stp lim lng o2 x2 p2 l2 g2 : Int} {t t2 : tbl} {cs code2 res res2 : List Int} {A A2 : List ac} {ex : Nat → Bool} {w0 w1 w2 w3 : Value} (m_c : Cc M c kept) (hs : Stt M (c + 1) ord exc stp lim t cs A lng res) (ht : okT t) (hS : okS ord exc stp lim) (hb : okB cs) (h2 : Stt M (c + 20) o2 x2 p2 l2 t2 code2 A2 g2 res2) (ha : Ca M (c + 118) ex) (m_de : M (c + 130) = some (ob 1 [w0, w1, w2, w3])) : CW I_X8_readOnTrial yX8_readOnTrial [.ref c] M z (fun M' r => ∃ t1 ys1, r = some (vI (drun ord exc stp lim cs 201 t [] (dbeg cs)).1) ∧ Stt M' (c + 20) ord exc stp lim t1 code2 A2 g2 ys1 ∧ okT t1 ∧ ((drun ord exc stp lim cs 201 t [] (dbeg cs)).1 = 0 → t1 = (drun ord exc stp lim cs 201 t [] (dbeg cs)).2.1 ∧ ys1 = (drun ord exc stp lim cs 201 t [] (dbeg cs)).2.2 ∧ okX ys1) ∧ (∃ ex, Ca M' (c + 118) ex) ∧ (∃ d, De M' (c + 130) (c + 7) d) ∧ OfD c M M') := by
  have m_c : M c = _ := m_c
  have fr : OfD c M M := OfD.rf
  obtain ⟨m_now, n1, n2, n3, n4⟩ := id hs
  obtain ⟨m_tr, hm, hcd, hl, hrs⟩ := id h2
  refine C.intro (pl := [some (.ref c), none, none]) pn_X8 rfl (fun h => absurd h (by decide)) rfl (Nat.le_of_ble_eq_true rfl) rfl ?_
  have loop : ∀ (j : Nat) (t1 : tbl) (ys : List Int) (d : ds) (ex : Nat → Bool) (M1 : pM), j ≤ 201 → ys.length = 201 - j → okT t1 → okX ys → okD d (4 + 20 * ys.length) → Cc M1 c kept → M1 (c + 20) = some (ob 7 [vI ord, vI exc, vI stp, vI lim, .ref (c + 20 + 1), .ref (c + 20 + 6), .ref (c + 20 + 8), .ref (c + 20 + 17)]) → Md M1 (c + 20 + 1) t1 → Rw M1 (c + 20 + 6) 400 code2 → Lg M1 (c + 20 + 8) A2 g2 → Rw M1 (c + 20 + 17) 200 ys → Rw M1 (c + 1 + 6) 400 cs → Ca M1 (c + 118) ex → De M1 (c + 130) (c + 7) d → OfD c M M1 → drun ord exc stp lim cs j t1 ys d = drun ord exc stp lim cs 201 t [] (dbeg cs) → 0 < j → ∀ K : Option Value, G I_X8_readOnTrial 0 0 (fun M' z' r' => z' = z ∧ (∃ t1 ys1, r' = some (vI (drun ord exc stp lim cs 201 t [] (dbeg cs)).1) ∧ Stt M' (c + 20) ord exc stp lim t1 code2 A2 g2 ys1 ∧ okT t1 ∧ ((drun ord exc stp lim cs 201 t [] (dbeg cs)).1 = 0 → t1 = (drun ord exc stp lim cs 201 t [] (dbeg cs)).2.1 ∧ ys1 = (drun ord exc stp lim cs 201 t [] (dbeg cs)).2.2 ∧ okX ys1) ∧ (∃ ex, Ca M' (c + 118) ex) ∧ (∃ d, De M' (c + 130) (c + 7) d) ∧ OfD c M M')) 0 0 54 [some (.ref c), some (vI (ys.length : Int)), K] [] M1 z := by
    intro j
    induction j with
    | zero => intro t1 ys d ex M hj hyl ht hx hk m_c m_tr hm hcd hl hrs hc ha hd fr hp0 h0 K; omega
    | succ j ih =>
      intro t1 ys d ex M hj hyl ht hx hk m_c m_tr hm hcd hl hrs hc ha hd fr hp0 h0 K
      have m_c : M c = _ := m_c
      have hrd := rdp_ok (g := fun j => cnO t1 (ky ys ys.length j)) (exc := exc) hb (fun i c hc => ht.cnO hc) (nOrd ord ys.length) (fun _ => false) d _ hk
      have hno : nOrd ord ys.length ≤ 4 ∧ ∀ i, i < nOrd ord ys.length → i ≤ ys.length ∧ i ≤ 3 := ⟨by obtain ⟨hS1, -⟩ := hS; unfold nOrd; omega, fun i hi => by obtain ⟨hS1, -⟩ := hS; unfold nOrd at hi; omega⟩
      rw [drun] at hp0
      generalize hrr : rd t1 ys ys.length exc ord cs d = R at hp0
      have hrd : okD R.2 (4 + 20 * ys.length + 4 * nOrd ord ys.length + 4) ∧ -1 ≤ R.1 ∧ R.1 < 96 := by rw [← hrr]; exact hrd
      have hrd2 := hrd.1.mono (m := 4 + 20 * (ys.length + 1)) (by omega)
      have hck := chk_rng ys
      have hdn := dnum_rng hrd.1 (t := 65536) (by omega)
      refine g_iload_n dX8_readOnTrial_54 rfl ?_
      refine z_sipush dX8_readOnTrial_55 (by decide +kernel) ?_
      refine z_icmp_gt (tgt := 147) dX8_readOnTrial_58 (by decide) (by omega) (by omega) (fun c58 => absurd c58 (by omega)) (fun c58 => ?_)
      refine g_aload_n dX8_readOnTrial_61 rfl ?_
      refine g_aload_n dX8_readOnTrial_62 rfl ?_
      refine z_getf fl_X8_16 dX8_readOnTrial_63 m_c rfl ?_
      refine z_getf fl_X8_176 dX8_readOnTrial_66 m_tr rfl ?_
      refine g_iload_n dX8_readOnTrial_69 rfl ?_
      refine z_callVV dX8_readOnTrial_70 lm_X8_301 lk_X8_readSymbol (x_readSymbol m_c m_tr hm ht hS hrs hx (Nat.le_refl _) ha hd hk (by omega) hc hb) rfl rfl m_c rfl (mkRoom rfl rfl) (Nat.le_of_ble_eq_true rfl) (Nat.le_of_ble_eq_true rfl) (Nat.le_of_ble_eq_true rfl) (fun M r hp => ?_)
      obtain ⟨rfl, hd, ⟨ex, ha⟩, o2⟩ := hp
      rw [hrr] at hd
      rw [hrr]
      have o1 := o2.off2 (Nat.le_refl _) (Nat.le_refl _)
      have fr := fr.addR o2
      have m_c := (o1 _ (by omega)).trans m_c
      have m_tr := (o1 _ (by omega)).trans m_tr
      have hm := hm.off o1 (by omega)
      have hcd := hcd.off o1 (by omega)
      have hl := hl.off o1 (by omega)
      have hrs := hrs.off o1 (by omega)
      have hc := hc.off o1 (by omega)
      refine g_istore_n dX8_readOnTrial_73 rfl (Nat.le_of_ble_eq_true rfl) ?_
      refine g_iload_n dX8_readOnTrial_74 rfl ?_
      refine z_if_ge (tgt := 80) dX8_readOnTrial_75 (by decide) (by omega) (fun c75 => ?_) (fun c75 => ?_)
      · refine g_iload_n dX8_readOnTrial_80 rfl ?_
        refine z_bipush dX8_readOnTrial_81 (by decide +kernel) ?_
        refine z_icmp_ne (tgt := 114) dX8_readOnTrial_83 (by decide) (by omega) (by omega) (fun c83 => ?_) (fun c83 => ?_)
        · refine g_aload_n dX8_readOnTrial_114 rfl ?_
          refine z_getf fl_X8_16 dX8_readOnTrial_115 m_c rfl ?_
          refine g_aload_n dX8_readOnTrial_118 rfl ?_
          refine z_getf fl_X8_16 dX8_readOnTrial_119 m_c rfl ?_
          refine z_getf fl_X8_176 dX8_readOnTrial_122 m_tr rfl ?_
          refine g_iload_n dX8_readOnTrial_125 rfl ?_
          refine g_iload_n dX8_readOnTrial_126 rfl ?_
          have eR : R.1 = ((R.1.toNat : Nat) : Int) := by omega
          refine G.top (v' := vI ((R.1.toNat : Nat) : Int)) (by rw [← eR]) ?_
          refine z_callVV dX8_readOnTrial_127 lm_X8_109 lk_X7_increase (Stt_increase (n := ys.length) (s := R.1.toNat) m_tr hm ht hS hrs hx (Nat.le_refl _) (by omega) (by omega)) rfl rfl m_tr rfl (mkRoom rfl rfl) (Nat.le_of_ble_eq_true rfl) (Nat.le_of_ble_eq_true rfl) (Nat.le_of_ble_eq_true rfl) (fun M r hp => ?_)
          obtain ⟨rfl, hm, o1⟩ := hp
          have fr := fr.add o1 (by omega)
          have m_c := (o1 _ (by omega)).trans m_c
          have m_tr := (o1 _ (by omega)).trans m_tr
          have hcd := hcd.off o1 (by omega)
          have hl := hl.off o1 (by omega)
          have hrs := hrs.off o1 (by omega)
          have hc := hc.off o1 (by omega)
          have ha := ha.off o1 (by omega)
          have hd := hd.off o1 (by omega)
          refine g_aload_n dX8_readOnTrial_130 rfl ?_
          refine z_getf fl_X8_16 dX8_readOnTrial_131 m_c rfl ?_
          refine z_getf fl_X8_176 dX8_readOnTrial_134 m_tr rfl ?_
          refine g_iload_n dX8_readOnTrial_137 rfl ?_
          refine z_callVV dX8_readOnTrial_138 lm_X8_135 lk_X6_push (Row_push hrs) rfl rfl hrs.obj rfl (mkRoom rfl rfl) (Nat.le_of_ble_eq_true rfl) (Nat.le_of_ble_eq_true rfl) (Nat.le_of_ble_eq_true rfl) (fun M r hp => ?_)
          obtain ⟨rfl, hrs, o1⟩ := hp
          have fr := fr.add o1 (by omega)
          have m_c := (o1 _ (by omega)).trans m_c
          have m_tr := (o1 _ (by omega)).trans m_tr
          have hm := hm.off o1 (by omega)
          have hcd := hcd.off o1 (by omega)
          have hl := hl.off o1 (by omega)
          have hc := hc.off o1 (by omega)
          have ha := ha.off o1 (by omega)
          have hd := hd.off o1 (by omega)
          refine z_iinc dX8_readOnTrial_141 rfl (Nat.le_of_ble_eq_true rfl) ?_
          refine g_goto (tgt := 54) dX8_readOnTrial_144 (by decide) ?_
          have htn := okT_incr ht (f := ky ys ys.length) (s := R.1.toNat) (n := nOrd ord ys.length) (by omega) hS.2.2.1 hS.2.2.2 (fun i hi => ky_rng hx (Nat.le_refl _) (hno.2 i hi).1 (hno.2 i hi).2)
          rw [if_neg (by omega), if_neg (by omega)] at hp0
          by_cases hj0 : j = 0
          · subst hj0
            rw [drun] at hp0
            refine g_iload_n dX8_readOnTrial_54 rfl ?_
            refine z_sipush dX8_readOnTrial_55 (by decide +kernel) ?_
            refine z_icmp_gt (tgt := 147) dX8_readOnTrial_58 (by decide) (by omega) (by omega) (fun c58 => ?_) (fun c58 => absurd c58 (by omega))
            refine z_iconst dX8_readOnTrial_147 ?_
            exact g_ireturn dX8_readOnTrial_148 rfl (Nat.le_of_ble_eq_true rfl) (Nat.le_of_ble_eq_true rfl) ⟨rfl, _, _, by rw [← hp0], ⟨m_tr, hm, hcd, hl, hrs⟩, htn, fun q => absurd q (by rw [← hp0]; dsimp only; decide), ⟨_, ha⟩, ⟨_, hd⟩, fr⟩
          · rw [if_pos (by omega)] at hrs
            have el : ((ys ++ [R.1]).length : Int) = (ys.length : Int) + 1 := by rw [List.length_append]; simp
            have ih2 := ih _ (ys ++ [R.1]) R.2 ex M (by omega) (by simp; omega) htn (hx.snoc (by omega)) (by rw [List.length_append]; exact hrd2) m_c m_tr hm hcd hl hrs hc ha hd fr hp0 (by omega) (some (vI R.1))
            rw [el] at ih2
            exact ih2
        · refine g_aload_n dX8_readOnTrial_86 rfl ?_
          refine z_getf fl_X8_60 dX8_readOnTrial_87 m_c rfl ?_
          refine z_ldc (65536) dX8_readOnTrial_90 kc_X8_245 rfl ?_
          refine z_callVR dX8_readOnTrial_92 lm_X8_305 lk_X1_number (De_number hd hrd.1 (by omega)) rfl rfl hd rfl (mkRoom rfl rfl) (Nat.le_of_ble_eq_true rfl) (Nat.le_of_ble_eq_true rfl) (Nat.le_of_ble_eq_true rfl) ?_
          refine g_aload_n dX8_readOnTrial_95 rfl ?_
          refine z_getf fl_X8_16 dX8_readOnTrial_96 m_c rfl ?_
          refine z_getf fl_X8_176 dX8_readOnTrial_99 m_tr rfl ?_
          refine z_callSR dX8_readOnTrial_102 lm_X8_241 lk_X8_checkNumber (x_checkNumber hrs hx) rfl rfl (mkRoom rfl rfl) (Nat.le_of_ble_eq_true rfl) (Nat.le_of_ble_eq_true rfl) (Nat.le_of_ble_eq_true rfl) ?_
          refine z_icmp_ne (tgt := 112) dX8_readOnTrial_105 (by decide) (by omega) (by omega) (fun c105 => ?_) (fun c105 => ?_)
          · refine z_iconst dX8_readOnTrial_112 ?_
            exact g_ireturn dX8_readOnTrial_113 rfl (Nat.le_of_ble_eq_true rfl) (Nat.le_of_ble_eq_true rfl) (by
            rw [if_neg (by omega), if_pos (by omega), if_neg (by omega)] at hp0
            exact ⟨rfl, _, _, by rw [← hp0], ⟨m_tr, hm, hcd, hl, hrs⟩, ht, fun q => absurd q (by rw [← hp0]; dsimp only; decide), ⟨_, ha⟩, ⟨_, hd⟩, fr⟩)
          · refine z_iconst dX8_readOnTrial_108 ?_
            refine g_goto (tgt := 113) dX8_readOnTrial_109 (by decide) ?_
            exact g_ireturn dX8_readOnTrial_113 rfl (Nat.le_of_ble_eq_true rfl) (Nat.le_of_ble_eq_true rfl) (by
            rw [if_neg (by omega), if_pos (by omega), if_pos (by omega)] at hp0
            exact ⟨rfl, _, _, by rw [← hp0], ⟨m_tr, hm, hcd, hl, hrs⟩, ht, fun q => by rw [← hp0]; exact ⟨rfl, rfl, hx⟩, ⟨_, ha⟩, ⟨_, hd⟩, fr⟩)
      · refine z_iconst dX8_readOnTrial_78 ?_
        exact g_ireturn dX8_readOnTrial_79 rfl (Nat.le_of_ble_eq_true rfl) (Nat.le_of_ble_eq_true rfl) (by
            rw [if_pos (by omega)] at hp0
            exact ⟨rfl, _, _, by rw [← hp0], ⟨m_tr, hm, hcd, hl, hrs⟩, ht, fun q => absurd q (by rw [← hp0]; dsimp only; decide), ⟨_, ha⟩, ⟨_, hd⟩, fr⟩)
  refine g_aload_n dX8_readOnTrial_0 rfl ?_
  refine z_getf fl_X8_16 dX8_readOnTrial_1 m_c rfl ?_
  refine g_aload_n dX8_readOnTrial_4 rfl ?_
  refine z_getf fl_X8_12 dX8_readOnTrial_5 m_c rfl ?_
  refine z_callVV dX8_readOnTrial_8 lm_X8_231 lk_X7_takeSettings (Stt_settings h2 hs hS.2.1 (by omega)) rfl rfl m_tr rfl (mkRoom rfl rfl) (Nat.le_of_ble_eq_true rfl) (Nat.le_of_ble_eq_true rfl) (Nat.le_of_ble_eq_true rfl) (fun M r hp => ?_)
  obtain ⟨rfl, h2, o1⟩ := hp
  have m_c := (o1 _ (by omega)).trans m_c
  have ha := ha.off o1 (by omega)
  have m_de := (o1 _ (by omega)).trans m_de
  have hs := hs.off o1 (by omega)
  obtain ⟨m_now, n1, n2, n3, n4⟩ := id hs
  obtain ⟨m_tr, hm, hcd, hl, hrs⟩ := id h2
  have fr := fr.add o1 (by omega)
  refine g_aload_n dX8_readOnTrial_11 rfl ?_
  refine z_getf fl_X8_16 dX8_readOnTrial_12 m_c rfl ?_
  refine z_getf fl_X8_85 dX8_readOnTrial_15 m_tr rfl ?_
  refine g_aload_n dX8_readOnTrial_18 rfl ?_
  refine z_getf fl_X8_12 dX8_readOnTrial_19 m_c rfl ?_
  refine z_getf fl_X8_85 dX8_readOnTrial_22 m_now rfl ?_
  refine z_callVV dX8_readOnTrial_25 lm_X8_148 lk_X4_take (Md_take hm n1 (by omega)) rfl rfl hm.obj rfl (mkRoom rfl rfl) (Nat.le_of_ble_eq_true rfl) (Nat.le_of_ble_eq_true rfl) (Nat.le_of_ble_eq_true rfl) (fun M r hp => ?_)
  obtain ⟨rfl, hm, o1⟩ := hp
  have hrs := hrs.off o1 (by omega)
  have m_de := (o1 _ (by omega)).trans m_de
  have m_c := (o1 _ (by omega)).trans m_c
  have m_tr := (o1 _ (by omega)).trans m_tr
  have m_now := (o1 _ (by omega)).trans m_now
  have n2 := n2.off o1 (by omega)
  have hcd := hcd.off o1 (by omega)
  have hl := hl.off o1 (by omega)
  have ha := ha.off o1 (by omega)
  have fr := fr.add o1 (by omega)
  refine g_aload_n dX8_readOnTrial_28 rfl ?_
  refine z_getf fl_X8_16 dX8_readOnTrial_29 m_c rfl ?_
  refine z_getf fl_X8_176 dX8_readOnTrial_32 m_tr rfl ?_
  refine z_callVV dX8_readOnTrial_35 lm_X8_298 lk_X6_clear (Row_clear hrs) rfl rfl hrs.obj rfl (mkRoom rfl rfl) (Nat.le_of_ble_eq_true rfl) (Nat.le_of_ble_eq_true rfl) (Nat.le_of_ble_eq_true rfl) (fun M r hp => ?_)
  obtain ⟨rfl, hrs, o1⟩ := hp
  have hm := hm.off o1 (by omega)
  have m_de := (o1 _ (by omega)).trans m_de
  have m_c := (o1 _ (by omega)).trans m_c
  have m_tr := (o1 _ (by omega)).trans m_tr
  have m_now := (o1 _ (by omega)).trans m_now
  have n2 := n2.off o1 (by omega)
  have hcd := hcd.off o1 (by omega)
  have hl := hl.off o1 (by omega)
  have ha := ha.off o1 (by omega)
  have fr := fr.add o1 (by omega)
  refine g_aload_n dX8_readOnTrial_38 rfl ?_
  refine z_getf fl_X8_60 dX8_readOnTrial_39 m_c rfl ?_
  refine g_aload_n dX8_readOnTrial_42 rfl ?_
  refine z_getf fl_X8_12 dX8_readOnTrial_43 m_c rfl ?_
  refine z_getf fl_X8_161 dX8_readOnTrial_46 m_now rfl ?_
  refine z_callVV dX8_readOnTrial_49 lm_X8_299 lk_X1_begin (De_begin m_de n2 hb (by omega)) rfl rfl m_de rfl (mkRoom rfl rfl) (Nat.le_of_ble_eq_true rfl) (Nat.le_of_ble_eq_true rfl) (Nat.le_of_ble_eq_true rfl) (fun M r hp => ?_)
  obtain ⟨rfl, hd, o1⟩ := hp
  have hm := hm.off o1 (by omega)
  have hrs := hrs.off o1 (by omega)
  have m_c := (o1 _ (by omega)).trans m_c
  have m_tr := (o1 _ (by omega)).trans m_tr
  have m_now := (o1 _ (by omega)).trans m_now
  have n2 := n2.off o1 (by omega)
  have hcd := hcd.off o1 (by omega)
  have hl := hl.off o1 (by omega)
  have ha := ha.off o1 (by omega)
  have fr := fr.add o1 (by omega)
  refine z_iconst dX8_readOnTrial_52 ?_
  refine g_istore_n dX8_readOnTrial_53 rfl (Nat.le_of_ble_eq_true rfl) ?_
  exact loop 201 t [] (dbeg cs) ex M (Nat.le_refl _) rfl ht (fun x hx => by cases hx) (okD_beg cs) m_c m_tr hm hcd hl hrs n2 ha hd fr rfl (by omega) _
