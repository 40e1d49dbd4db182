/-! learn, encode, decode, fingerprint -/
theorem strip_ok {ys : List Int} (h : okB ys) : okB (strip ys) := fun x hx => h x (strip_mem hx)
theorem efin_ok {e : es} {n : Nat} (h : okN e n) (hn : n ≤ 4024) : okB (efin e).2.2.1 ∧ (efin e).2.2.1.length ≤ 4028 ∧ 0 ≤ (efin e).2.2.2 ∧ (efin e).2.2.2 ≤ 4028 := by
  obtain ⟨low, range, out, lng⟩ := e
  obtain ⟨k1, k2, k3, k4, k5, k6⟩ := h
  simp only at k1 k2 k3 k4 k5 k6
  have hcr := cryL_ok out.length out 0 k3
  have hc2 : (cry out).2 ≤ (out.length : Int) := by have := hcr.2.2.2; unfold cry; omega
  have hc3 : 0 ≤ (cry out).2 := hcr.2.2.1
  have hc4 : (cry out).1.length = out.length := hcr.2.1
  have hz := zf_le low range 4
  unfold efin
  dsimp only
  split
  · refine ⟨strip_ok (fun x hx => (List.mem_append.mp hx).elim (hcr.1 x) (byt_ok _ _ x)), Nat.le_trans (strip_len _) ?_, by dsimp only; omega, by dsimp only; omega⟩
    rw [List.length_append, byt_len]; dsimp only; omega
  · refine ⟨strip_ok (fun x hx => (List.mem_append.mp hx).elim (k3 x) (byt_ok _ _ x)), Nat.le_trans (strip_len _) ?_, k5, by dsimp only; omega⟩
    rw [List.length_append, byt_len]; dsimp only; omega
theorem cend_ok {ord exc stp lim : Int} {xs : List Int} {t : tbl} (hS : okS ord exc stp lim) (hx : okX xs) (hl : xs.length ≤ 200) (ht : okT t) : okB (cend ord exc stp lim xs t).2.2.1 ∧ (cend ord exc stp lim xs t).2.2.1.length ≤ 4028 ∧ 0 ≤ (cend ord exc stp lim xs t).2.2.2 ∧ (cend ord exc stp lim xs t).2.2.2 ≤ 4028 :=
  efin_ok (okN_eiv (crun_ok hS hx ht (xs.length + 1) (Nat.le_refl _)).2.2 (okI_chk (xs := xs))) (by omega)
theorem lrn_ok {ord exc stp lim : Int} {xs : List Int} {t : tbl} (hS : okS ord exc stp lim) (hx : okX xs) (ht : okT t) : ∀ k : Nat, k ≤ xs.length + 1 → okT (lrn ord stp lim xs t k)
  | 0, _ => ht
  | k + 1, hk => okT_incr (lrn_ok hS hx ht k (by omega)) (sy_lt hx k) hS.2.2.1 hS.2.2.2 (fun j hj => by
      have h1 := hS.1
      unfold nOrd at hj
      exact ky_rng hx (by omega) (by omega) (by omega))
def oEncode (k : kk) : Int × kk :=
  if 400 < (cend (sO k.1) (sX k.1) (sS k.1) (sL k.1) k.2.2 (sT k.1)).2.2.1.length then (-3, k)
  else ((cend (sO k.1) (sX k.1) (sS k.1) (sL k.1) k.2.2 (sT k.1)).2.2.1.length, pushed k (sO k.1, sX k.1, sS k.1, sL k.1, (crun (sO k.1) (sX k.1) (sS k.1) (sL k.1) k.2.2 (sT k.1) (k.2.2.length + 1)).1, (cend (sO k.1) (sX k.1) (sS k.1) (sL k.1) k.2.2 (sT k.1)).2.2.1, (crun (sO k.1) (sX k.1) (sS k.1) (sL k.1) k.2.2 (sT k.1) (k.2.2.length + 1)).2.1, (cend (sO k.1) (sX k.1) (sS k.1) (sL k.1) k.2.2 (sT k.1)).2.2.2, sR k.1))
def dres (σ : sg) : Int × tbl × List Int := drun (sO σ) (sX σ) (sS σ) (sL σ) (sC σ) 201 (sT σ) [] (dbeg (sC σ))
def oDecode (k : kk) : Int × kk :=
  if (dres k.1).1 = 0 then
    (if (cend (sO k.1) (sX k.1) (sS k.1) (sL k.1) (dres k.1).2.2 (sT k.1)).2.2.1 = sC k.1 then ((dres k.1).2.2.length, pushed k (sO k.1, sX k.1, sS k.1, sL k.1, (crun (sO k.1) (sX k.1) (sS k.1) (sL k.1) (dres k.1).2.2 (sT k.1) ((dres k.1).2.2.length + 1)).1, sC k.1, sA k.1, sG k.1, (dres k.1).2.2)) else (-103, k))
  else (-100 - (dres k.1).1, k)
theorem drun_rng {ord exc stp lim : Int} {cs : List Int} : ∀ (n : Nat) (t : tbl) (ys : List Int) (d : ds), 0 ≤ (drun ord exc stp lim cs n t ys d).1 ∧ (drun ord exc stp lim cs n t ys d).1 ≤ 3
  | 0, t, ys, d => by rw [drun]; dsimp only; omega
  | n + 1, t, ys, d => by
    rw [drun]
    split
    · dsimp only; omega
    · split
      · dsimp only; split <;> omega
      · exact drun_rng n _ _ _
theorem Rw.offT {c q N : Nat} {M M' : pM} {xs : List Int} (h : Rw M q N xs) (ho : OfT c M M') (hd : q + 2 ≤ c + 20 ∨ q = c + 26 ∨ (c + 37 ≤ q ∧ q + 2 ≤ c + 118) ∨ c + 130 ≤ q) : Rw M' q N xs := by
  obtain ⟨g, h1, h2, h3⟩ := h
  exact ⟨g, (ho q (by omega)).trans h1, (ho (q + 1) (by omega)).trans h2, h3⟩
theorem SS.by_ {st : Nat} {M M' : pM} {τ : sg} (hh : SS M st τ) (k : ∀ y, st ≤ y → y < st + 19 → M' y = M y) : SS M' st τ := by
  obtain ⟨h1, ⟨gk, gw, gn, gc, b1, b2, b3, b4, b5, b6⟩, ⟨e1, e2, e3, e4⟩, ⟨a0, ⟨a1, a2, a3, a4⟩, ⟨a5, a6, a7, a8⟩, ⟨a9, a10, a11, a12⟩, ⟨a13, a14, a15, a16⟩⟩, ⟨d1, d2, d3, d4⟩⟩ := hh
  exact ⟨(k _ (by omega) (by omega)).trans h1, ⟨gk, gw, gn, gc, (k _ (by omega) (by omega)).trans b1, (k _ (by omega) (by omega)).trans b2, (k _ (by omega) (by omega)).trans b3, (k _ (by omega) (by omega)).trans b4, (k _ (by omega) (by omega)).trans b5, b6⟩, ⟨e1, (k _ (by omega) (by omega)).trans e2, (k _ (by omega) (by omega)).trans e3, e4⟩, ⟨(k _ (by omega) (by omega)).trans a0, ⟨a1, (k _ (by omega) (by omega)).trans a2, (k _ (by omega) (by omega)).trans a3, a4⟩, ⟨a5, (k _ (by omega) (by omega)).trans a6, (k _ (by omega) (by omega)).trans a7, a8⟩, ⟨a9, (k _ (by omega) (by omega)).trans a10, (k _ (by omega) (by omega)).trans a11, a12⟩, ⟨a13, (k _ (by omega) (by omega)).trans a14, (k _ (by omega) (by omega)).trans a15, a16⟩⟩, ⟨d1, (k _ (by omega) (by omega)).trans d2, (k _ (by omega) (by omega)).trans d3, d4⟩⟩
theorem Pst.by_ {c : Nat} {M M' : pM} {h : List sg} (hp : Pst M c h) (ho : ∀ x, c + 39 ≤ x → x < c + 116 → M' x = M x) : Pst M' c h := by
  obtain ⟨f, pi, h1, h2, h3, h4, h5, h6⟩ := hp
  refine ⟨f, pi, (ho _ (by omega) (by omega)).trans h1, h2, h3, fun i hi => ?_, h5, fun i hi => ?_⟩
  · obtain ⟨τ, hτ⟩ := h4 i hi
    have := (h2 i hi).2
    exact ⟨τ, hτ.by_ (fun y a b => ho y (by omega) (by omega))⟩
  · have := (h2 i (by omega)).2
    exact ⟨(h6 i hi).1.by_ (fun y a b => ho y (by omega) (by omega)), (h6 i hi).2⟩
theorem Rw.by_ {q N : Nat} {M M' : pM} {xs : List Int} (h : Rw M q N xs) (k : ∀ y, q ≤ y → y < q + 2 → M' y = M y) : Rw M' q N xs := by
  obtain ⟨g, h1, h2, h3⟩ := h
  exact ⟨g, (k q (by omega) (by omega)).trans h1, (k (q + 1) (by omega) (by omega)).trans h2, h3⟩
theorem Rt.by_ {rt : Nat} {M M' : pM} {L : List iv} {lo : Int} (h : Rt M rt L lo) (k : ∀ y, rt ≤ y → y < rt + 7 → M' y = M y) : Rt M' rt L lo := ⟨(k _ (by omega) (by omega)).trans h.1, h.2.1.by_ (fun y a b => k y (by omega) (by omega)), h.2.2.1.by_ (fun y a b => k y (by omega) (by omega)), h.2.2.2.by_ (fun y a b => k y (by omega) (by omega))⟩
theorem En.by_ {en : Nat} {M M' : pM} {low range lng : Int} {out : List Int} (h : En M en low range out lng) (k : ∀ y, en ≤ y → y < en + 3 → M' y = M y) : En M' en low range out lng := ⟨(k _ (by omega) (by omega)).trans h.1, h.2.by_ (fun y a b => k y (by omega) (by omega))⟩
theorem Stt.offT {c : Nat} {M M' : pM} {ord exc stp lim : Int} {t : tbl} {code : List Int} {A : List ac} {lng : Int} {res : List Int} (hh : Stt M (c + 1) ord exc stp lim t code A lng res) (ho : OfT c M M') : Stt M' (c + 1) ord exc stp lim t code A lng res :=
  Stt.off hh (show Off M M' (c + 20) (c + 131) from fun x hx => ho x (by omega)) (by omega)
theorem Stt.ex {M : pM} {st : Nat} {o x s l : Int} {t : tbl} {cd : List Int} {A : List ac} {g : Int} {r : List Int} (h : Stt M st o x s l t cd A g r) : ∃ τ, SS M st τ := ⟨(o, x, s, l, t, cd, A, g, r), h⟩
set_option maxHeartbeats 1000000 in
theorem c_learn {M : pM} {z c : Nat} {k : kk}  (h : CC M c k)  : CK I_X8_learn yX8_learn c [] M z (oLearn k) := by
  obtain ⟨σ, hs, x⟩ := k
  obtain ⟨m_c, hn, hG, hp, hR⟩ := id h
  have m_c : M c = _ := m_c
  obtain ⟨m_n, n1, n2, n3, n4⟩ := id hn
  have fr : Off M M c (c + 131) := Off.rf
  dsimp only at m_c hn hG hp hR m_n n1 n2 n3 n4
  unfold oLearn pushed
  try dsimp only
  refine C.intro (pl := [some (.ref c), none]) pn_X8 rfl (fun h => absurd h (by decide)) rfl (Nat.le_of_ble_eq_true rfl) rfl ?_
  have hxo : okX x := hR.2.1.2
  have hxl := hR.2.1.1.len
  have loop : ∀ (j i : Nat) (M1 : pM), i + j = x.length → Cc M1 c (hpush hs σ).length → Stt M1 (c + 1) (sO σ) (sX σ) (sS σ) (sL σ) (lrn (sO σ) (sS σ) (sL σ) x (sT σ) i) (sC σ) (sA σ) (sG σ) (sR σ) → Pst M1 c (hpush hs σ) → Rst M1 c x → Off M M1 c (c + 131) → G I_X8_learn 0 0 (fun M' z' r => z' = z ∧ r = some (vI ((lrn (sO σ) (sS σ) (sL σ) x (sT σ) (x.length + 1)).length : Int)) ∧ CC M' c ((sO σ, sX σ, sS σ, sL σ, lrn (sO σ) (sS σ) (sL σ) x (sT σ) (x.length + 1), sC σ, sA σ, sG σ, sR σ), hpush hs σ, x) ∧ Off M M' c (c + 131)) 0 0 6 [some (.ref c), some (vI (i : Int))] [] M1 z := by
    intro j
    induction j with
    | zero =>
      intro i M hi m_c hn hp hR fr
      have e : i = x.length := by omega
      subst e
      have m_c : M c = _ := m_c
      obtain ⟨m_n, n1, n2, n3, n4⟩ := id hn
      have hT := lrn_ok hG.1 hxo hG.2.1 x.length (by omega)
      have hT2 := lrn_ok hG.1 hxo hG.2.1 (x.length + 1) (by omega)
      have hx := hR.2.1.1
      have m_tx := hx.obj
      refine g_iload_n dX8_learn_6 rfl ?_
      refine g_aload_n dX8_learn_7 rfl ?_
      refine z_getf fl_X8_32 dX8_learn_8 m_c rfl ?_
      refine z_getf fl_X8_102 dX8_learn_11 m_tx rfl ?_
      refine z_icmp_ge (tgt := 43) dX8_learn_14 (by decide) (by omega) (by omega) (fun c14 => ?_) (fun c14 => absurd c14 (by omega))
      refine g_aload_n dX8_learn_43 rfl ?_
      refine z_getf fl_X8_12 dX8_learn_44 m_c rfl ?_
      refine g_aload_n dX8_learn_47 rfl ?_
      refine z_getf fl_X8_32 dX8_learn_48 m_c rfl ?_
      refine g_aload_n dX8_learn_51 rfl ?_
      refine z_getf fl_X8_32 dX8_learn_52 m_c rfl ?_
      refine z_getf fl_X8_102 dX8_learn_55 m_tx rfl ?_
      refine z_bipush dX8_learn_58 (by decide +kernel) ?_
      refine z_callVV dX8_learn_60 lm_X8_109 lk_X7_increase (Stt_increase (n := x.length) (s := 95) m_n n1 hT hG.1 hx hxo (by omega) (by omega) (by omega)) rfl rfl m_n rfl (mkRoom rfl rfl) (Nat.le_of_ble_eq_true rfl) (Nat.le_of_ble_eq_true rfl) (Nat.le_of_ble_eq_true rfl) (fun M r hp2 => ?_)
      obtain ⟨rfl, n1, o1⟩ := hp2
      have m_c := (o1 _ (by omega)).trans m_c
      have m_n := (o1 _ (by omega)).trans m_n
      have n2 := n2.off o1 (by omega)
      have n3 := n3.off o1 (by omega)
      have n4 := n4.off o1 (by omega)
      have hp := hp.off o1 (by omega)
      have hR := hR.off o1 (by omega)
      have fr := fr.tr (o1.wd (by omega) (by omega))
      refine g_aload_n dX8_learn_63 rfl ?_
      refine z_callVV dX8_learn_64 lm_X8_98 lk_X8_contexts (c_contexts (k := ((sO σ, sX σ, sS σ, sL σ, lrn (sO σ) (sS σ) (sL σ) x (sT σ) (x.length + 1), sC σ, sA σ, sG σ, sR σ), hpush hs σ, x)) ⟨m_c, ⟨m_n, (by rw [lrn, sy_end]; exact n1), n2, n3, n4⟩, ⟨hG.1, hT2, hG.2.2⟩, hp, hR⟩) rfl rfl m_c rfl (mkRoom rfl rfl) (Nat.le_of_ble_eq_true rfl) (Nat.le_of_ble_eq_true rfl) (Nat.le_of_ble_eq_true rfl) (fun M r hp2 => ?_)
      obtain ⟨rfl, hcc, o1⟩ := hp2
      have fr := fr.tr o1
      exact g_ireturn dX8_learn_67 rfl (Nat.le_of_ble_eq_true rfl) (Nat.le_of_ble_eq_true rfl) ⟨rfl, rfl, hcc, fr⟩
    | succ j ih =>
      intro i M hi m_c hn hp hR fr
      have m_c : M c = _ := m_c
      obtain ⟨m_n, n1, n2, n3, n4⟩ := id hn
      have hT := lrn_ok hG.1 hxo hG.2.1 i (by omega)
      have hx := hR.2.1.1
      have m_tx := hx.obj
      have hsy := sy_in hxo (k := i) (by omega)
      have hsl := sy_lt hxo i
      have ih2 := fun M2 => ih (i + 1) M2 (by omega)
      refine g_iload_n dX8_learn_6 rfl ?_
      refine g_aload_n dX8_learn_7 rfl ?_
      refine z_getf fl_X8_32 dX8_learn_8 m_c rfl ?_
      refine z_getf fl_X8_102 dX8_learn_11 m_tx rfl ?_
      refine z_icmp_ge (tgt := 43) dX8_learn_14 (by decide) (by omega) (by omega) (fun c14 => absurd c14 (by omega)) (fun c14 => ?_)
      refine g_aload_n dX8_learn_17 rfl ?_
      refine z_getf fl_X8_12 dX8_learn_18 m_c rfl ?_
      refine g_aload_n dX8_learn_21 rfl ?_
      refine z_getf fl_X8_32 dX8_learn_22 m_c rfl ?_
      refine g_iload_n dX8_learn_25 rfl ?_
      refine g_aload_n dX8_learn_26 rfl ?_
      refine z_getf fl_X8_32 dX8_learn_27 m_c rfl ?_
      refine g_iload_n dX8_learn_30 rfl ?_
      refine z_callVR dX8_learn_31 lm_X8_105 lk_X6_item ((Row_item (j := i) hx (by omega)).eq (by rw [← hsy])) rfl rfl hx.obj rfl (mkRoom rfl rfl) (Nat.le_of_ble_eq_true rfl) (Nat.le_of_ble_eq_true rfl) (Nat.le_of_ble_eq_true rfl) ?_
      refine z_callVV dX8_learn_34 lm_X8_109 lk_X7_increase (Stt_increase (n := i) (s := sy x i) m_n n1 hT hG.1 hx hxo (by omega) (hsl) (by omega)) rfl rfl m_n rfl (mkRoom rfl rfl) (Nat.le_of_ble_eq_true rfl) (Nat.le_of_ble_eq_true rfl) (Nat.le_of_ble_eq_true rfl) (fun M r hp2 => ?_)
      obtain ⟨rfl, n1, o1⟩ := hp2
      have m_c := (o1 _ (by omega)).trans m_c
      have m_n := (o1 _ (by omega)).trans m_n
      have n2 := n2.off o1 (by omega)
      have n3 := n3.off o1 (by omega)
      have n4 := n4.off o1 (by omega)
      have hp := hp.off o1 (by omega)
      have hR := hR.off o1 (by omega)
      have fr := fr.tr (o1.wd (by omega) (by omega))
      refine z_iinc dX8_learn_37 rfl (Nat.le_of_ble_eq_true rfl) ?_
      refine g_goto (tgt := 6) dX8_learn_40 (by decide) ?_
      exact ih2 M m_c ⟨m_n, n1, n2, n3, n4⟩ hp hR fr
  refine g_aload_n dX8_learn_0 rfl ?_
  refine z_callVV dX8_learn_1 lm_X8_82 lk_X8_remember (x_remember m_c hn hG hp) rfl rfl m_c rfl (mkRoom rfl rfl) (Nat.le_of_ble_eq_true rfl) (Nat.le_of_ble_eq_true rfl) (Nat.le_of_ble_eq_true rfl) (fun M r hp2 => ?_)
  obtain ⟨rfl, m_c, hn, hp, o2⟩ := hp2
  have hR := hR.H o2
  have fr := fr.tr (o2.off.wd (by omega) (by omega))
  obtain ⟨m_n, n1, n2, n3, n4⟩ := id hn
  have m_c : M c = _ := m_c
  refine z_iconst dX8_learn_4 ?_
  refine g_istore_n dX8_learn_5 rfl (Nat.le_of_ble_eq_true rfl) ?_
  exact loop x.length 0 M (by omega) m_c hn hp hR fr
set_option maxHeartbeats 1000000 in
theorem c_encode {M : pM} {z c : Nat} {k : kk}  (h : CC M c k)  : CK I_X8_encode yX8_encode c [] M z (oEncode k) := by
  obtain ⟨σ, hs, x⟩ := k
  obtain ⟨m_c, hn, hG, hp, hR⟩ := id h
  have m_c : M c = _ := m_c
  obtain ⟨m_n, n1, n2, n3, n4⟩ := id hn
  have fr : Off M M c (c + 131) := Off.rf
  dsimp only at m_c hn hG hp hR m_n n1 n2 n3 n4
  obtain ⟨⟨τ, h1⟩, ⟨hx, hxo⟩, ⟨e, h3⟩, w0, w1, w2, w3, h4⟩ := hR
  have m_tx := hx.obj
  have hxl := hx.len
  unfold oEncode pushed
  try dsimp only
  refine C.intro (pl := [some (.ref c)]) pn_X8 rfl (fun h => absurd h (by decide)) rfl (Nat.le_of_ble_eq_true rfl) rfl ?_
  have hck := cend_ok hG.1 hxo hxl.1 hG.2.1
  have hcr := (crun_ok hG.1 hxo hG.2.1 (x.length + 1) (Nat.le_refl _)).1
  refine g_aload_n dX8_encode_0 rfl ?_
  refine g_aload_n dX8_encode_1 rfl ?_
  refine z_getf fl_X8_32 dX8_encode_2 m_c rfl ?_
  refine z_callVV dX8_encode_5 lm_X8_141 lk_X8_codeOnTrial (x_codeOnTrial m_c hn hG.2.1 hG.1 h1 hx (Or.inr rfl) hxo hxl.1 h3) rfl rfl m_c rfl (mkRoom rfl rfl) (Nat.le_of_ble_eq_true rfl) (Nat.le_of_ble_eq_true rfl) (Nat.le_of_ble_eq_true rfl) (fun M r hp2 => ?_)
  obtain ⟨rfl, h1, h3, o4⟩ := hp2
  have m_c := (o4 _ (by omega)).trans m_c
  have hn := Stt.offT hn o4
  obtain ⟨m_n, n1, n2, n3, n4⟩ := id hn
  have hp := hp.by_ (fun y a b => o4 y (by omega))
  have h4 := (o4 _ (by omega)).trans h4
  have fr : Off _ M c (c + 131) := fun y hy => (o4 y (by omega)).trans (fr y hy)
  have hx := hx.offT o4 (by omega)
  obtain ⟨⟨ex, ha⟩, ⟨L0, lo, hr⟩, he⟩ := h3
  have m_en := he.1
  have m_ou := he.2.obj
  refine g_aload_n dX8_encode_8 rfl ?_
  refine z_getf fl_X8_53 dX8_encode_9 m_c rfl ?_
  refine z_getf fl_X8_145 dX8_encode_12 m_en rfl ?_
  refine z_getf fl_X8_102 dX8_encode_15 m_ou rfl ?_
  refine z_sipush dX8_encode_18 (by decide +kernel) ?_
  refine z_icmp_le (tgt := 27) dX8_encode_21 (by decide) (by omega) (by omega) (fun c21 => ?_) (fun c21 => ?_)
  · refine g_aload_n dX8_encode_27 rfl ?_
    refine z_callVV dX8_encode_28 lm_X8_82 lk_X8_remember (x_remember m_c hn hG hp) rfl rfl m_c rfl (mkRoom rfl rfl) (Nat.le_of_ble_eq_true rfl) (Nat.le_of_ble_eq_true rfl) (Nat.le_of_ble_eq_true rfl) (fun M r hp2 => ?_)
    obtain ⟨rfl, m_c, hn, hp, o2⟩ := hp2
    have o5 := o2.off
    obtain ⟨m_n, n1, n2, n3, n4⟩ := id hn
    have m_c : M c = _ := m_c
    have h1 := Stt_H h1 o2 (by omega)
    obtain ⟨m_tr, t1, t2, t3, t4⟩ := id h1
    have h4 := (o5 _ (by omega)).trans h4
    have fr := fr.tr (o5.wd (by omega) (by omega))
    have hx := hx.off o5 (by omega)
    have ha := ha.off o5 (by omega)
    have hr := hr.off o5 (by omega)
    have he := he.off o5 (by omega)
    have m_en := he.1
    refine g_aload_n dX8_encode_31 rfl ?_
    refine z_getf fl_X8_12 dX8_encode_32 m_c rfl ?_
    refine z_getf fl_X8_85 dX8_encode_35 m_n rfl ?_
    refine g_aload_n dX8_encode_38 rfl ?_
    refine z_getf fl_X8_16 dX8_encode_39 m_c rfl ?_
    refine z_getf fl_X8_85 dX8_encode_42 m_tr rfl ?_
    refine z_callVV dX8_encode_45 lm_X8_148 lk_X4_take (Md_take n1 t1 (by omega)) rfl rfl n1.obj rfl (mkRoom rfl rfl) (Nat.le_of_ble_eq_true rfl) (Nat.le_of_ble_eq_true rfl) (Nat.le_of_ble_eq_true rfl) (fun M r hp2 => ?_)
    obtain ⟨rfl, n1, o1⟩ := hp2
    have n2 := n2.off o1 (by omega)
    have n3 := n3.off o1 (by omega)
    have n4 := n4.off o1 (by omega)
    have m_c := (o1 _ (by omega)).trans m_c
    have m_n := (o1 _ (by omega)).trans m_n
    have hp := hp.off o1 (by omega)
    have h1 := h1.off o1 (by omega)
    obtain ⟨m_tr, t1, t2, t3, t4⟩ := id h1
    have h4 := (o1 _ (by omega)).trans h4
    have hx := hx.off o1 (by omega)
    have fr := fr.tr (o1.wd (by omega) (by omega))
    have ha := ha.off o1 (by omega)
    have hr := hr.off o1 (by omega)
    have he := he.off o1 (by omega)
    have m_en := he.1
    refine g_aload_n dX8_encode_48 rfl ?_
    refine z_getf fl_X8_12 dX8_encode_49 m_c rfl ?_
    refine z_getf fl_X8_152 dX8_encode_52 m_n rfl ?_
    refine g_aload_n dX8_encode_55 rfl ?_
    refine z_getf fl_X8_16 dX8_encode_56 m_c rfl ?_
    refine z_getf fl_X8_152 dX8_encode_59 m_tr rfl ?_
    refine z_callVV dX8_encode_62 lm_X8_156 lk_X3_take (Lg_take n3 t3 (by omega)) rfl rfl n3.1 rfl (mkRoom rfl rfl) (Nat.le_of_ble_eq_true rfl) (Nat.le_of_ble_eq_true rfl) (Nat.le_of_ble_eq_true rfl) (fun M r hp2 => ?_)
    obtain ⟨rfl, n3, o1⟩ := hp2
    have n1 := n1.off o1 (by omega)
    have n2 := n2.off o1 (by omega)
    have n4 := n4.off o1 (by omega)
    have m_c := (o1 _ (by omega)).trans m_c
    have m_n := (o1 _ (by omega)).trans m_n
    have hp := hp.off o1 (by omega)
    have h1 := h1.off o1 (by omega)
    obtain ⟨m_tr, t1, t2, t3, t4⟩ := id h1
    have h4 := (o1 _ (by omega)).trans h4
    have hx := hx.off o1 (by omega)
    have fr := fr.tr (o1.wd (by omega) (by omega))
    have ha := ha.off o1 (by omega)
    have hr := hr.off o1 (by omega)
    have he := he.off o1 (by omega)
    have m_en := he.1
    refine g_aload_n dX8_encode_65 rfl ?_
    refine z_getf fl_X8_12 dX8_encode_66 m_c rfl ?_
    refine z_getf fl_X8_161 dX8_encode_69 m_n rfl ?_
    refine g_aload_n dX8_encode_72 rfl ?_
    refine z_getf fl_X8_53 dX8_encode_73 m_c rfl ?_
    refine z_getf fl_X8_145 dX8_encode_76 m_en rfl ?_
    refine z_callVV dX8_encode_79 lm_X8_164 lk_X6_take (Row_take n2 he.2 (by omega) (by omega)) rfl rfl n2.obj rfl (mkRoom rfl rfl) (Nat.le_of_ble_eq_true rfl) (Nat.le_of_ble_eq_true rfl) (Nat.le_of_ble_eq_true rfl) (fun M r hp2 => ?_)
    obtain ⟨rfl, n2, o1⟩ := hp2
    have n1 := n1.off o1 (by omega)
    have n3 := n3.off o1 (by omega)
    have n4 := n4.off o1 (by omega)
    have m_c := (o1 _ (by omega)).trans m_c
    have m_n := (o1 _ (by omega)).trans m_n
    have hp := hp.off o1 (by omega)
    have h1 := h1.off o1 (by omega)
    obtain ⟨m_tr, t1, t2, t3, t4⟩ := id h1
    have h4 := (o1 _ (by omega)).trans h4
    have hx := hx.off o1 (by omega)
    have fr := fr.tr (o1.wd (by omega) (by omega))
    have ha := ha.off o1 (by omega)
    have hr := hr.off o1 (by omega)
    have he := he.off o1 (by omega)
    have m_en := he.1
    have m_cd := n2.obj
    refine g_aload_n dX8_encode_82 rfl ?_
    refine z_getf fl_X8_12 dX8_encode_83 m_c rfl ?_
    refine z_getf fl_X8_161 dX8_encode_86 m_n rfl ?_
    refine z_getf fl_X8_102 dX8_encode_89 m_cd rfl ?_
    exact g_ireturn dX8_encode_92 rfl (Nat.le_of_ble_eq_true rfl) (Nat.le_of_ble_eq_true rfl) ⟨rfl, by rw [if_neg (by omega)], by rw [if_neg (by omega)]; exact ⟨m_c, ⟨m_n, n1, n2, n3, n4⟩, ⟨hG.1, hcr, hck.1, hG.2.2.2.1, hck.2.2.1, Int.le_trans hck.2.2.2 (by decide)⟩, hp, h1.ex, ⟨hx, hxo⟩, ⟨_, ⟨⟨_, ha⟩, ⟨_, _, hr⟩, he⟩⟩, w0, w1, w2, w3, h4⟩, fr⟩
  · refine z_bipush dX8_encode_24 (by decide +kernel) ?_
    exact g_ireturn dX8_encode_26 rfl (Nat.le_of_ble_eq_true rfl) (Nat.le_of_ble_eq_true rfl) ⟨rfl, by rw [if_pos (by omega)], by rw [if_pos (by omega)]; exact ⟨m_c, hn, hG, hp, h1.ex, ⟨hx, hxo⟩, ⟨_, ⟨⟨_, ha⟩, ⟨_, _, hr⟩, he⟩⟩, w0, w1, w2, w3, h4⟩, fr⟩
set_option maxHeartbeats 1000000 in
theorem c_decode {M : pM} {z c : Nat} {k : kk}  (h : CC M c k)  : CK I_X8_decode yX8_decode c [] M z (oDecode k) := by
  obtain ⟨σ, hs, x⟩ := k
  obtain ⟨m_c, hn, hG, hp, hR⟩ := id h
  have m_c : M c = _ := m_c
  obtain ⟨m_n, n1, n2, n3, n4⟩ := id hn
  have fr : Off M M c (c + 131) := Off.rf
  dsimp only at m_c hn hG hp hR m_n n1 n2 n3 n4
  obtain ⟨⟨τ, h1⟩, ⟨hx, hxo⟩, ⟨e, h3⟩, w0, w1, w2, w3, h4⟩ := hR
  have m_tx := hx.obj
  have hxl := hx.len
  have hdr : 0 ≤ (drun (sO σ) (sX σ) (sS σ) (sL σ) (sC σ) 201 (sT σ) [] (dbeg (sC σ))).1 ∧ (drun (sO σ) (sX σ) (sS σ) (sL σ) (sC σ) 201 (sT σ) [] (dbeg (sC σ))).1 ≤ 3 := drun_rng _ _ _ _
  unfold oDecode pushed dres
  try dsimp only
  refine C.intro (pl := [some (.ref c), none]) pn_X8 rfl (fun h => absurd h (by decide)) rfl (Nat.le_of_ble_eq_true rfl) rfl ?_
  obtain ⟨⟨ex, ha⟩, ⟨L0, lo, hr⟩, he⟩ := h3
  by_cases h0 : (drun (sO σ) (sX σ) (sS σ) (sL σ) (sC σ) 201 (sT σ) [] (dbeg (sC σ))).1 = 0
  · rw [if_pos h0]
    by_cases hq : (cend (sO σ) (sX σ) (sS σ) (sL σ) (drun (sO σ) (sX σ) (sS σ) (sL σ) (sC σ) 201 (sT σ) [] (dbeg (sC σ))).2.2 (sT σ)).2.2.1 = sC σ
    · rw [if_pos hq]
      refine g_aload_n dX8_decode_0 rfl ?_
      refine z_callVV dX8_decode_1 lm_X8_173 lk_X8_readOnTrial (x_readOnTrial m_c hn hG.2.1 hG.1 hG.2.2.1 h1 ha h4) rfl rfl m_c rfl (mkRoom rfl rfl) (Nat.le_of_ble_eq_true rfl) (Nat.le_of_ble_eq_true rfl) (Nat.le_of_ble_eq_true rfl) (fun M r hp2 => ?_)
      obtain ⟨t1, ys1, rfl, h1, ht1, hz, ⟨ex, ha⟩, ⟨d, hdd⟩, o4⟩ := hp2
      have m_c := (o4 _ (by omega)).trans m_c
      have fr : Off _ M c (c + 131) := fun y hy => (o4 y (by omega)).trans (fr y hy)
      have hn := SS.by_ hn (fun y a b => o4 y (by omega))
      obtain ⟨m_n, n1, n2, n3, n4⟩ := id hn
      have hp := hp.by_ (fun y a b => o4 y (by omega))
      have hx := Rw.by_ hx (fun y a b => o4 y (by omega))
      have hr := Rt.by_ hr (fun y a b => o4 y (by omega))
      have he := En.by_ he (fun y a b => o4 y (by omega))
      obtain ⟨m_tr, t1', t2', t3', t4'⟩ := id h1
      have hz := hz h0
      obtain ⟨rfl, rfl, hyx⟩ := hz
      have hyl := t4'.len
      have hce := cend_ok (stp := sS σ) (lim := sL σ) hG.1 hyx hyl.1 hG.2.1
      have hcr := (crun_ok hG.1 hyx hG.2.1 ((drun (sO σ) (sX σ) (sS σ) (sL σ) (sC σ) 201 (sT σ) [] (dbeg (sC σ))).2.2.length + 1) (Nat.le_refl _)).1
      refine g_istore_n dX8_decode_4 rfl (Nat.le_of_ble_eq_true rfl) ?_
      refine g_iload_n dX8_decode_5 rfl ?_
      refine z_if_ne (tgt := 46) dX8_decode_6 (by decide) (by omega) (fun c6 => absurd c6 (by omega)) (fun c6 => ?_)
      refine g_aload_n dX8_decode_9 rfl ?_
      refine g_aload_n dX8_decode_10 rfl ?_
      refine z_getf fl_X8_16 dX8_decode_11 m_c rfl ?_
      refine z_getf fl_X8_176 dX8_decode_14 m_tr rfl ?_
      refine z_callVV dX8_decode_17 lm_X8_141 lk_X8_codeOnTrial (x_codeOnTrial (e := e) (xs := (drun (sO σ) (sX σ) (sS σ) (sL σ) (sC σ) 201 (sT σ) [] (dbeg (sC σ))).2.2) m_c hn hG.2.1 hG.1 h1 t4' (Or.inl rfl) hyx hyl.1 ⟨⟨_, ha⟩, ⟨_, _, hr⟩, he⟩) rfl rfl m_c rfl (mkRoom rfl rfl) (Nat.le_of_ble_eq_true rfl) (Nat.le_of_ble_eq_true rfl) (Nat.le_of_ble_eq_true rfl) (fun M r hp2 => ?_)
      obtain ⟨rfl, h1, h3, o4⟩ := hp2
      have m_c := (o4 _ (by omega)).trans m_c
      have hn := Stt.offT hn o4
      obtain ⟨m_n, n1, n2, n3, n4⟩ := id hn
      have hp := hp.by_ (fun y a b => o4 y (by omega))
      have hdd := (show De M (c + 130) (c + 7) d from (o4 _ (by omega)).trans hdd)
      have fr : Off _ M c (c + 131) := fun y hy => (o4 y (by omega)).trans (fr y hy)
      have hx := hx.offT o4 (by omega)
      obtain ⟨⟨ex, ha⟩, ⟨L0, lo, hr⟩, he⟩ := h3
      have m_en := he.1
      have h4 := hdd
      refine g_aload_n dX8_decode_20 rfl ?_
      refine z_getf fl_X8_53 dX8_decode_21 m_c rfl ?_
      refine z_getf fl_X8_145 dX8_decode_24 m_en rfl ?_
      refine g_aload_n dX8_decode_27 rfl ?_
      refine z_getf fl_X8_12 dX8_decode_28 m_c rfl ?_
      refine z_getf fl_X8_161 dX8_decode_31 m_n rfl ?_
      refine z_callVR dX8_decode_34 lm_X8_179 lk_X6_same ((Row_same he.2 n2 (fun y hy => by have := hce.1 y hy; omega) (fun y hy => by have := hG.2.2.1 y hy; omega)).eq (by rw [if_pos hq])) rfl rfl he.2.obj rfl (mkRoom rfl rfl) (Nat.le_of_ble_eq_true rfl) (Nat.le_of_ble_eq_true rfl) (Nat.le_of_ble_eq_true rfl) ?_
      refine z_if_eq (tgt := 44) dX8_decode_37 (by decide) (by omega) (fun c37 => absurd c37 (by omega)) (fun c37 => ?_)
      refine z_iconst dX8_decode_40 ?_
      refine g_goto (tgt := 45) dX8_decode_41 (by decide) ?_
      refine g_istore_n dX8_decode_45 rfl (Nat.le_of_ble_eq_true rfl) ?_
      refine g_iload_n dX8_decode_46 rfl ?_
      refine z_if_eq (tgt := 55) dX8_decode_47 (by decide) (by omega) (fun c47 => ?_) (fun c47 => absurd c47 (by omega))
      refine g_aload_n dX8_decode_55 rfl ?_
      refine z_callVV dX8_decode_56 lm_X8_82 lk_X8_remember (x_remember m_c hn hG hp) rfl rfl m_c rfl (mkRoom rfl rfl) (Nat.le_of_ble_eq_true rfl) (Nat.le_of_ble_eq_true rfl) (Nat.le_of_ble_eq_true rfl) (fun M r hp2 => ?_)
      obtain ⟨rfl, m_c, hn, hp, o2⟩ := hp2
      have o5 := o2.off
      obtain ⟨m_n, n1, n2, n3, n4⟩ := id hn
      have m_c : M c = _ := m_c
      have h1 := Stt_H h1 o2 (by omega)
      obtain ⟨m_tr, t1, t2, t3, t4⟩ := id h1
      have h4 := (o5 _ (by omega)).trans h4
      have fr := fr.tr (o5.wd (by omega) (by omega))
      have hx := hx.off o5 (by omega)
      have ha := ha.off o5 (by omega)
      have hr := hr.off o5 (by omega)
      have he := he.off o5 (by omega)
      have m_en := he.1
      refine g_aload_n dX8_decode_59 rfl ?_
      refine z_getf fl_X8_12 dX8_decode_60 m_c rfl ?_
      refine z_getf fl_X8_85 dX8_decode_63 m_n rfl ?_
      refine g_aload_n dX8_decode_66 rfl ?_
      refine z_getf fl_X8_16 dX8_decode_67 m_c rfl ?_
      refine z_getf fl_X8_85 dX8_decode_70 m_tr rfl ?_
      refine z_callVV dX8_decode_73 lm_X8_148 lk_X4_take (Md_take n1 t1 (by omega)) rfl rfl n1.obj rfl (mkRoom rfl rfl) (Nat.le_of_ble_eq_true rfl) (Nat.le_of_ble_eq_true rfl) (Nat.le_of_ble_eq_true rfl) (fun M r hp2 => ?_)
      obtain ⟨rfl, n1, o1⟩ := hp2
      have n2 := n2.off o1 (by omega)
      have n3 := n3.off o1 (by omega)
      have n4 := n4.off o1 (by omega)
      have m_c := (o1 _ (by omega)).trans m_c
      have m_n := (o1 _ (by omega)).trans m_n
      have hp := hp.off o1 (by omega)
      have h1 := h1.off o1 (by omega)
      obtain ⟨m_tr, t1, t2, t3, t4⟩ := id h1
      have h4 := (o1 _ (by omega)).trans h4
      have hx := hx.off o1 (by omega)
      have fr := fr.tr (o1.wd (by omega) (by omega))
      have ha := ha.off o1 (by omega)
      have hr := hr.off o1 (by omega)
      have he := he.off o1 (by omega)
      have m_en := he.1
      refine g_aload_n dX8_decode_76 rfl ?_
      refine z_getf fl_X8_12 dX8_decode_77 m_c rfl ?_
      refine z_getf fl_X8_176 dX8_decode_80 m_n rfl ?_
      refine g_aload_n dX8_decode_83 rfl ?_
      refine z_getf fl_X8_16 dX8_decode_84 m_c rfl ?_
      refine z_getf fl_X8_176 dX8_decode_87 m_tr rfl ?_
      refine z_callVV dX8_decode_90 lm_X8_164 lk_X6_take (Row_take n4 t4 (by omega) (by omega)) rfl rfl n4.obj rfl (mkRoom rfl rfl) (Nat.le_of_ble_eq_true rfl) (Nat.le_of_ble_eq_true rfl) (Nat.le_of_ble_eq_true rfl) (fun M r hp2 => ?_)
      obtain ⟨rfl, n4, o1⟩ := hp2
      have n1 := n1.off o1 (by omega)
      have n2 := n2.off o1 (by omega)
      have n3 := n3.off o1 (by omega)
      have m_c := (o1 _ (by omega)).trans m_c
      have m_n := (o1 _ (by omega)).trans m_n
      have hp := hp.off o1 (by omega)
      have h1 := h1.off o1 (by omega)
      obtain ⟨m_tr, t1, t2, t3, t4⟩ := id h1
      have h4 := (o1 _ (by omega)).trans h4
      have hx := hx.off o1 (by omega)
      have fr := fr.tr (o1.wd (by omega) (by omega))
      have ha := ha.off o1 (by omega)
      have hr := hr.off o1 (by omega)
      have he := he.off o1 (by omega)
      have m_en := he.1
      have m_rs := n4.obj
      refine g_aload_n dX8_decode_93 rfl ?_
      refine z_getf fl_X8_12 dX8_decode_94 m_c rfl ?_
      refine z_getf fl_X8_176 dX8_decode_97 m_n rfl ?_
      refine z_getf fl_X8_102 dX8_decode_100 m_rs rfl ?_
      exact g_ireturn dX8_decode_103 rfl (Nat.le_of_ble_eq_true rfl) (Nat.le_of_ble_eq_true rfl) ⟨rfl, rfl, ⟨m_c, ⟨m_n, n1, n2, n3, n4⟩, ⟨hG.1, hcr, hG.2.2.1, hyx, hG.2.2.2.2⟩, hp, h1.ex, ⟨hx, hxo⟩, ⟨_, ⟨⟨_, ha⟩, ⟨_, _, hr⟩, he⟩⟩, _, _, _, _, h4⟩, fr⟩
    · rw [if_neg hq]
      refine g_aload_n dX8_decode_0 rfl ?_
      refine z_callVV dX8_decode_1 lm_X8_173 lk_X8_readOnTrial (x_readOnTrial m_c hn hG.2.1 hG.1 hG.2.2.1 h1 ha h4) rfl rfl m_c rfl (mkRoom rfl rfl) (Nat.le_of_ble_eq_true rfl) (Nat.le_of_ble_eq_true rfl) (Nat.le_of_ble_eq_true rfl) (fun M r hp2 => ?_)
      obtain ⟨t1, ys1, rfl, h1, ht1, hz, ⟨ex, ha⟩, ⟨d, hdd⟩, o4⟩ := hp2
      have m_c := (o4 _ (by omega)).trans m_c
      have fr : Off _ M c (c + 131) := fun y hy => (o4 y (by omega)).trans (fr y hy)
      have hn := SS.by_ hn (fun y a b => o4 y (by omega))
      obtain ⟨m_n, n1, n2, n3, n4⟩ := id hn
      have hp := hp.by_ (fun y a b => o4 y (by omega))
      have hx := Rw.by_ hx (fun y a b => o4 y (by omega))
      have hr := Rt.by_ hr (fun y a b => o4 y (by omega))
      have he := En.by_ he (fun y a b => o4 y (by omega))
      obtain ⟨m_tr, t1', t2', t3', t4'⟩ := id h1
      have hz := hz h0
      obtain ⟨rfl, rfl, hyx⟩ := hz
      have hyl := t4'.len
      have hce := cend_ok (stp := sS σ) (lim := sL σ) hG.1 hyx hyl.1 hG.2.1
      have hcr := (crun_ok hG.1 hyx hG.2.1 ((drun (sO σ) (sX σ) (sS σ) (sL σ) (sC σ) 201 (sT σ) [] (dbeg (sC σ))).2.2.length + 1) (Nat.le_refl _)).1
      refine g_istore_n dX8_decode_4 rfl (Nat.le_of_ble_eq_true rfl) ?_
      refine g_iload_n dX8_decode_5 rfl ?_
      refine z_if_ne (tgt := 46) dX8_decode_6 (by decide) (by omega) (fun c6 => absurd c6 (by omega)) (fun c6 => ?_)
      refine g_aload_n dX8_decode_9 rfl ?_
      refine g_aload_n dX8_decode_10 rfl ?_
      refine z_getf fl_X8_16 dX8_decode_11 m_c rfl ?_
      refine z_getf fl_X8_176 dX8_decode_14 m_tr rfl ?_
      refine z_callVV dX8_decode_17 lm_X8_141 lk_X8_codeOnTrial (x_codeOnTrial (e := e) (xs := (drun (sO σ) (sX σ) (sS σ) (sL σ) (sC σ) 201 (sT σ) [] (dbeg (sC σ))).2.2) m_c hn hG.2.1 hG.1 h1 t4' (Or.inl rfl) hyx hyl.1 ⟨⟨_, ha⟩, ⟨_, _, hr⟩, he⟩) rfl rfl m_c rfl (mkRoom rfl rfl) (Nat.le_of_ble_eq_true rfl) (Nat.le_of_ble_eq_true rfl) (Nat.le_of_ble_eq_true rfl) (fun M r hp2 => ?_)
      obtain ⟨rfl, h1, h3, o4⟩ := hp2
      have m_c := (o4 _ (by omega)).trans m_c
      have hn := Stt.offT hn o4
      obtain ⟨m_n, n1, n2, n3, n4⟩ := id hn
      have hp := hp.by_ (fun y a b => o4 y (by omega))
      have hdd := (show De M (c + 130) (c + 7) d from (o4 _ (by omega)).trans hdd)
      have fr : Off _ M c (c + 131) := fun y hy => (o4 y (by omega)).trans (fr y hy)
      have hx := hx.offT o4 (by omega)
      obtain ⟨⟨ex, ha⟩, ⟨L0, lo, hr⟩, he⟩ := h3
      have m_en := he.1
      have h4 := hdd
      refine g_aload_n dX8_decode_20 rfl ?_
      refine z_getf fl_X8_53 dX8_decode_21 m_c rfl ?_
      refine z_getf fl_X8_145 dX8_decode_24 m_en rfl ?_
      refine g_aload_n dX8_decode_27 rfl ?_
      refine z_getf fl_X8_12 dX8_decode_28 m_c rfl ?_
      refine z_getf fl_X8_161 dX8_decode_31 m_n rfl ?_
      refine z_callVR dX8_decode_34 lm_X8_179 lk_X6_same ((Row_same he.2 n2 (fun y hy => by have := hce.1 y hy; omega) (fun y hy => by have := hG.2.2.1 y hy; omega)).eq (by rw [if_neg hq])) rfl rfl he.2.obj rfl (mkRoom rfl rfl) (Nat.le_of_ble_eq_true rfl) (Nat.le_of_ble_eq_true rfl) (Nat.le_of_ble_eq_true rfl) ?_
      refine z_if_eq (tgt := 44) dX8_decode_37 (by decide) (by omega) (fun c37 => ?_) (fun c37 => absurd c37 (by omega))
      refine z_iconst dX8_decode_44 ?_
      refine g_istore_n dX8_decode_45 rfl (Nat.le_of_ble_eq_true rfl) ?_
      refine g_iload_n dX8_decode_46 rfl ?_
      refine z_if_eq (tgt := 55) dX8_decode_47 (by decide) (by omega) (fun c47 => absurd c47 (by omega)) (fun c47 => ?_)
      refine z_bipush dX8_decode_50 (by decide +kernel) ?_
      refine g_iload_n dX8_decode_52 rfl ?_
      refine z_isub dX8_decode_53 ?_
      exact g_ireturn dX8_decode_54 rfl (Nat.le_of_ble_eq_true rfl) (Nat.le_of_ble_eq_true rfl) ⟨rfl, rfl, ⟨m_c, hn, hG, hp, h1.ex, ⟨hx, hxo⟩, ⟨_, ⟨⟨_, ha⟩, ⟨_, _, hr⟩, he⟩⟩, _, _, _, _, h4⟩, fr⟩
  · rw [if_neg h0]
    refine g_aload_n dX8_decode_0 rfl ?_
    refine z_callVV dX8_decode_1 lm_X8_173 lk_X8_readOnTrial (x_readOnTrial m_c hn hG.2.1 hG.1 hG.2.2.1 h1 ha h4) rfl rfl m_c rfl (mkRoom rfl rfl) (Nat.le_of_ble_eq_true rfl) (Nat.le_of_ble_eq_true rfl) (Nat.le_of_ble_eq_true rfl) (fun M r hp2 => ?_)
    obtain ⟨t1, ys1, rfl, h1, ht1, hz, ⟨ex, ha⟩, ⟨d, hdd⟩, o4⟩ := hp2
    have m_c := (o4 _ (by omega)).trans m_c
    have fr : Off _ M c (c + 131) := fun y hy => (o4 y (by omega)).trans (fr y hy)
    have hn := SS.by_ hn (fun y a b => o4 y (by omega))
    obtain ⟨m_n, n1, n2, n3, n4⟩ := id hn
    have hp := hp.by_ (fun y a b => o4 y (by omega))
    have hx := Rw.by_ hx (fun y a b => o4 y (by omega))
    have hr := Rt.by_ hr (fun y a b => o4 y (by omega))
    have he := En.by_ he (fun y a b => o4 y (by omega))
    obtain ⟨m_tr, t1', t2', t3', t4'⟩ := id h1
    refine g_istore_n dX8_decode_4 rfl (Nat.le_of_ble_eq_true rfl) ?_
    refine g_iload_n dX8_decode_5 rfl ?_
    refine z_if_ne (tgt := 46) dX8_decode_6 (by decide) (by omega) (fun c6 => ?_) (fun c6 => absurd c6 (by omega))
    refine g_iload_n dX8_decode_46 rfl ?_
    refine z_if_eq (tgt := 55) dX8_decode_47 (by decide) (by omega) (fun c47 => absurd c47 (by omega)) (fun c47 => ?_)
    refine z_bipush dX8_decode_50 (by decide +kernel) ?_
    refine g_iload_n dX8_decode_52 rfl ?_
    refine z_isub dX8_decode_53 ?_
    exact g_ireturn dX8_decode_54 rfl (Nat.le_of_ble_eq_true rfl) (Nat.le_of_ble_eq_true rfl) ⟨rfl, rfl, ⟨m_c, hn, hG, hp, h1.ex, ⟨hx, hxo⟩, ⟨_, ⟨⟨_, ha⟩, ⟨_, _, hr⟩, he⟩⟩, _, _, _, _, hdd⟩, fr⟩
