/-! the object as a value: state, history, text; what each call does to it, and answers -/
abbrev kk : Type := sg × List sg × List Int
def Rst (M : pM) (c : Nat) (x : List Int) : Prop := (∃ τ, SS M (c + 20) τ) ∧ (Rw M (c + 116) 200 x ∧ okX x) ∧ (∃ e, Tls M c e) ∧ ∃ w0 w1 w2 w3, M (c + 130) = some (ob 1 [w0, w1, w2, w3])
theorem OfH.off {c : Nat} {M M' : pM} (h : OfH c M M') : Off M M' c (c + 116) := fun x hx => h x (by omega)
theorem Stt_H {M M' : pM} {c st : Nat} {o x s l : Int} {t : tbl} {cd : List Int} {A : List ac} {g : Int} {r : List Int} (h : Stt M st o x s l t cd A g r) (ho : OfH c M M') (hd : c < st ∧ st + 19 ≤ c + 39) : Stt M' st o x s l t cd A g r := by
  have h2 : Off M (fun y => if c < y ∧ y < c + 39 then M y else M' y) c (c + 116) := fun y hy => by
    dsimp only
    split
    · rfl
    · exact ho y (by omega)
  obtain ⟨h1, ⟨gk, gw, gn, gc, b1, b2, b3, b4, b5, b6⟩, ⟨e1, e2, e3, e4⟩, ⟨a0, ⟨a1, a2, a3, a4⟩, ⟨a5, a6, a7, a8⟩, ⟨a9, a10, a11, a12⟩, ⟨a13, a14, a15, a16⟩⟩, ⟨d1, d2, d3, d4⟩⟩ := h
  have k : ∀ y, st ≤ y → y < st + 19 → M' y = M y := fun y h1 h2 => ho y (by omega)
  exact ⟨(k _ (by omega) (by omega)).trans h1, ⟨gk, gw, gn, gc, (k _ (by omega) (by omega)).trans b1, (k _ (by omega) (by omega)).trans b2, (k _ (by omega) (by omega)).trans b3, (k _ (by omega) (by omega)).trans b4, (k _ (by omega) (by omega)).trans b5, b6⟩, ⟨e1, (k _ (by omega) (by omega)).trans e2, (k _ (by omega) (by omega)).trans e3, e4⟩, ⟨(k _ (by omega) (by omega)).trans a0, ⟨a1, (k _ (by omega) (by omega)).trans a2, (k _ (by omega) (by omega)).trans a3, a4⟩, ⟨a5, (k _ (by omega) (by omega)).trans a6, (k _ (by omega) (by omega)).trans a7, a8⟩, ⟨a9, (k _ (by omega) (by omega)).trans a10, (k _ (by omega) (by omega)).trans a11, a12⟩, ⟨a13, (k _ (by omega) (by omega)).trans a14, (k _ (by omega) (by omega)).trans a15, a16⟩⟩, ⟨d1, (k _ (by omega) (by omega)).trans d2, (k _ (by omega) (by omega)).trans d3, d4⟩⟩
theorem Rst.H {M M' : pM} {c : Nat} {x : List Int} (h : Rst M c x) (ho : OfH c M M') : Rst M' c x := by
  obtain ⟨⟨τ, h1⟩, ⟨h2, h2b⟩, ⟨e, h3⟩, w0, w1, w2, w3, h4⟩ := h
  have h5 := ho.off
  exact ⟨⟨τ, Stt_H h1 ho (by omega)⟩, ⟨h2.off h5 (by omega), h2b⟩, ⟨e, h3.off h5 (by omega)⟩, w0, w1, w2, w3, (h5 _ (by omega)).trans h4⟩
theorem Rst.off {M M' : pM} {c lo hi : Nat} {x : List Int} (h : Rst M c x) (ho : Off M M' lo hi) (hd : hi ≤ c + 20) : Rst M' c x := by
  obtain ⟨⟨τ, h1⟩, ⟨h2, h2b⟩, ⟨e, h3⟩, w0, w1, w2, w3, h4⟩ := h
  exact ⟨⟨τ, h1.off ho (by omega)⟩, ⟨h2.off ho (by omega), h2b⟩, ⟨e, h3.off ho (by omega)⟩, w0, w1, w2, w3, (ho _ (by omega)).trans h4⟩
def CC (M : pM) (c : Nat) (k : kk) : Prop := Cc M c k.2.1.length ∧ SS M (c + 1) k.1 ∧ okG k.1 ∧ Pst M c k.2.1 ∧ Rst M c k.2.2
theorem CC.off {M M' : pM} {c lo hi : Nat} {k : kk} (h : CC M c k) (ho : Off M M' lo hi) (hd : c + 131 ≤ lo ∨ hi ≤ c) : CC M' c k := by
  obtain ⟨h1, h2, h3, h4, ⟨τ, h5⟩, ⟨h6, h6b⟩, ⟨e, h7⟩, w0, w1, w2, w3, h8⟩ := h
  exact ⟨(ho _ (by omega)).trans h1, h2.off ho (by omega), h3, h4.off ho (by omega), ⟨τ, h5.off ho (by omega)⟩, ⟨h6.off ho (by omega), h6b⟩, ⟨e, h7.off ho (by omega)⟩, w0, w1, w2, w3, (ho _ (by omega)).trans h8⟩
/-- a call on the object at c: its answer and the object behind it -/
def CK (I : MI) (y : MethodName) (c : Nat) (args : List Value) (M : pM) (z : Nat) (res : Int × kk) : Prop := CW I y (.ref c :: args) M z (fun M' r => r = some (vI res.1) ∧ CC M' c res.2 ∧ Off M M' c (c + 131))
def pushed (k : kk) (σ : sg) : kk := (σ, hpush k.2.1 k.1, k.2.2)
def oSetOrder (a : Int) (k : kk) : Int × kk := if 0 ≤ a ∧ a ≤ 3 then (sO k.1, pushed k (a, sX k.1, sS k.1, sL k.1, [], sC k.1, sA k.1, sG k.1, sR k.1)) else (-1, k)
def oSetExcl (b : Int) (k : kk) : Int × kk := (sX k.1, pushed k (sO k.1, b, sS k.1, sL k.1, sT k.1, sC k.1, sA k.1, sG k.1, sR k.1))
def oSetStep (a : Int) (k : kk) : Int × kk := if 1 ≤ a ∧ a ≤ 10 then (sS k.1, pushed k (sO k.1, sX k.1, a, sL k.1, sT k.1, sC k.1, sA k.1, sG k.1, sR k.1)) else (-1, k)
def oSetLimit (a : Int) (k : kk) : Int × kk := if 20 ≤ a ∧ a ≤ 1000 then (sL k.1, pushed k (sO k.1, sX k.1, sS k.1, a, sT k.1, sC k.1, sA k.1, sG k.1, sR k.1)) else (-1, k)
def oForget (k : kk) : Int × kk := ((sT k.1).length, pushed k (sO k.1, sX k.1, sS k.1, sL k.1, [], sC k.1, sA k.1, sG k.1, sR k.1))
def lrn (ord stp lim : Int) (x : List Int) (t : tbl) : Nat → tbl
  | 0 => t
  | i + 1 => incr (lrn ord stp lim x t i) (ky x i) (sy x i) stp lim (nOrd ord i)
def oLearn (k : kk) : Int × kk := ((lrn (sO k.1) (sS k.1) (sL k.1) k.2.2 (sT k.1) (k.2.2.length + 1)).length, pushed k (sO k.1, sX k.1, sS k.1, sL k.1, lrn (sO k.1) (sS k.1) (sL k.1) k.2.2 (sT k.1) (k.2.2.length + 1), sC k.1, sA k.1, sG k.1, sR k.1))
def oContexts (k : kk) : Int × kk := ((sT k.1).length, k)
def oBytes (k : kk) : Int × kk := ((sC k.1).length, k)
def oCodeByte (a : Int) (k : kk) : Int × kk := (if 0 ≤ a ∧ a < (sC k.1).length then (sC k.1).getD a.toNat 0 else -1, k)
def oLongest (k : kk) : Int × kk := (sG k.1, k)
def oDecoded (a : Int) (k : kk) : Int × kk := (if a < 0 then -1 else if a < (sR k.1).length then (sR k.1).getD a.toNat 0 + 32 else -9, k)
def oCoded (k : kk) : Int × kk := ((sA k.1).length, k)
def oType (a : Int) (k : kk) : Int × kk := if 32 ≤ a ∧ a ≤ 126 then (if k.2.2.length < 200 then ((k.2.2.length : Int) + 1, k.1, k.2.1, k.2.2 ++ [a - 32]) else (-3, k)) else (-1, k)
def oRemove (a : Int) (k : kk) : Int × kk := if a < 0 then (-1, k) else ((k.2.2.length - a.toNat : Nat), k.1, k.2.1, k.2.2.take (k.2.2.length - a.toNat))
def oLg (a t : Int) (k : kk) : Int × kk := (if 1 ≤ t ∧ t ≤ 1000000 ∧ 1 ≤ a ∧ a ≤ t then lgc a t else -1, k)
def oFlip (a b : Int) (k : kk) : Int × kk := if (0 ≤ a ∧ a < (sC k.1).length) ∧ 0 ≤ b ∧ b ≤ 7 then ((((sC k.1).getD a.toNat 0).toNat ^^^ 2 ^ b.toNat : Nat), pushed k (sO k.1, sX k.1, sS k.1, sL k.1, sT k.1, (sC k.1).set a.toNat ((((sC k.1).getD a.toNat 0).toNat ^^^ 2 ^ b.toNat : Nat)), sA k.1, sG k.1, sR k.1)) else (-1, k)
def oCut (a : Int) (k : kk) : Int × kk := if 1 ≤ a ∧ a ≤ 400 then (if a ≤ (sC k.1).length then (((sC k.1).length - a.toNat : Nat), pushed k (sO k.1, sX k.1, sS k.1, sL k.1, sT k.1, (sC k.1).take ((sC k.1).length - a.toNat), sA k.1, sG k.1, sR k.1)) else (-2, k)) else (-1, k)
def oAppend (a : Int) (k : kk) : Int × kk := if 0 ≤ a ∧ a ≤ 255 then (if (sC k.1).length < 400 then (((sC k.1).length : Int) + 1, pushed k (sO k.1, sX k.1, sS k.1, sL k.1, sT k.1, sC k.1 ++ [a], sA k.1, sG k.1, sR k.1)) else (-3, k)) else (-1, k)
def oUndo (k : kk) : Int × kk := match k.2.1.getLast? with
  | some σ => ((k.2.1.length - 1 : Nat), σ, k.2.1.dropLast, k.2.2)
  | none => (-9, k)
set_option maxHeartbeats 1000000 in
theorem c_contexts {M : pM} {z c : Nat} {k : kk}  (h : CC M c k)  : CK I_X8_contexts yX8_contexts c [] M z (oContexts k) := by
  obtain ⟨σ, hs, x⟩ := k
  obtain ⟨m_c, hn, hG, hp, hR⟩ := id h
  have m_c : M c = _ := m_c
  obtain ⟨m_n, n1, n2, n3, n4⟩ := id hn
  have fr : Off M M c (c + 131) := Off.rf
  dsimp only at m_c hn hG hp hR m_n n1 n2 n3 n4
  have m_o := n1.obj
  unfold oContexts
  refine C.intro (pl := [some (.ref c)]) pn_X8 rfl (fun h => absurd h (by decide)) rfl (Nat.le_of_ble_eq_true rfl) rfl ?_
  refine g_aload_n dX8_contexts_0 rfl ?_
  refine z_getf fl_X8_12 dX8_contexts_1 m_c rfl ?_
  refine z_getf fl_X8_85 dX8_contexts_4 m_n rfl ?_
  refine z_getf fl_X8_113 dX8_contexts_7 m_o rfl ?_
  exact g_ireturn dX8_contexts_10 rfl (Nat.le_of_ble_eq_true rfl) (Nat.le_of_ble_eq_true rfl) ⟨rfl, rfl, h, Off.rf⟩
set_option maxHeartbeats 1000000 in
theorem c_bytes {M : pM} {z c : Nat} {k : kk}  (h : CC M c k)  : CK I_X8_bytes yX8_bytes c [] M z (oBytes k) := by
  obtain ⟨σ, hs, x⟩ := k
  obtain ⟨m_c, hn, hG, hp, hR⟩ := id h
  have m_c : M c = _ := m_c
  obtain ⟨m_n, n1, n2, n3, n4⟩ := id hn
  have fr : Off M M c (c + 131) := Off.rf
  dsimp only at m_c hn hG hp hR m_n n1 n2 n3 n4
  have m_cd := n2.obj
  unfold oBytes
  refine C.intro (pl := [some (.ref c)]) pn_X8 rfl (fun h => absurd h (by decide)) rfl (Nat.le_of_ble_eq_true rfl) rfl ?_
  refine g_aload_n dX8_bytes_0 rfl ?_
  refine z_getf fl_X8_12 dX8_bytes_1 m_c rfl ?_
  refine z_getf fl_X8_161 dX8_bytes_4 m_n rfl ?_
  refine z_getf fl_X8_102 dX8_bytes_7 m_cd rfl ?_
  exact g_ireturn dX8_bytes_10 rfl (Nat.le_of_ble_eq_true rfl) (Nat.le_of_ble_eq_true rfl) ⟨rfl, rfl, h, Off.rf⟩
set_option maxHeartbeats 1000000 in
theorem c_longest {M : pM} {z c : Nat} {k : kk}  (h : CC M c k)  : CK I_X8_longestCarry yX8_longestCarry c [] M z (oLongest k) := by
  obtain ⟨σ, hs, x⟩ := k
  obtain ⟨m_c, hn, hG, hp, hR⟩ := id h
  have m_c : M c = _ := m_c
  obtain ⟨m_n, n1, n2, n3, n4⟩ := id hn
  have fr : Off M M c (c + 131) := Off.rf
  dsimp only at m_c hn hG hp hR m_n n1 n2 n3 n4
  have m_l := n3.1
  unfold oLongest
  refine C.intro (pl := [some (.ref c)]) pn_X8 rfl (fun h => absurd h (by decide)) rfl (Nat.le_of_ble_eq_true rfl) rfl ?_
  refine g_aload_n dX8_longestCarry_0 rfl ?_
  refine z_getf fl_X8_12 dX8_longestCarry_1 m_c rfl ?_
  refine z_getf fl_X8_152 dX8_longestCarry_4 m_n rfl ?_
  refine z_getf fl_X8_170 dX8_longestCarry_7 m_l rfl ?_
  exact g_ireturn dX8_longestCarry_10 rfl (Nat.le_of_ble_eq_true rfl) (Nat.le_of_ble_eq_true rfl) ⟨rfl, rfl, h, Off.rf⟩
set_option maxHeartbeats 1000000 in
theorem c_coded {M : pM} {z c : Nat} {k : kk}  (h : CC M c k)  : CK I_X8_coded yX8_coded c [] M z (oCoded k) := by
  obtain ⟨σ, hs, x⟩ := k
  obtain ⟨m_c, hn, hG, hp, hR⟩ := id h
  have m_c : M c = _ := m_c
  obtain ⟨m_n, n1, n2, n3, n4⟩ := id hn
  have fr : Off M M c (c + 131) := Off.rf
  dsimp only at m_c hn hG hp hR m_n n1 n2 n3 n4
  have m_l := n3.1
  have m_u := n3.2.2.2.2.obj
  rw [List.length_map] at m_u
  unfold oCoded
  refine C.intro (pl := [some (.ref c)]) pn_X8 rfl (fun h => absurd h (by decide)) rfl (Nat.le_of_ble_eq_true rfl) rfl ?_
  refine g_aload_n dX8_coded_0 rfl ?_
  refine z_getf fl_X8_12 dX8_coded_1 m_c rfl ?_
  refine z_getf fl_X8_152 dX8_coded_4 m_n rfl ?_
  refine z_getf fl_X8_187 dX8_coded_7 m_l rfl ?_
  refine z_getf fl_X8_102 dX8_coded_10 m_u rfl ?_
  exact g_ireturn dX8_coded_13 rfl (Nat.le_of_ble_eq_true rfl) (Nat.le_of_ble_eq_true rfl) ⟨rfl, rfl, h, Off.rf⟩
set_option maxHeartbeats 1000000 in
theorem c_codeByte {M : pM} {z c : Nat} {k : kk} {a : Int} (h : CC M c k) (h_a : -2147483648 ≤ a ∧ a < 2147483648) : CK I_X8_codeByte yX8_codeByte c [vI a] M z (oCodeByte a k) := by
  obtain ⟨σ, hs, x⟩ := k
  obtain ⟨m_c, hn, hG, hp, hR⟩ := id h
  have m_c : M c = _ := m_c
  obtain ⟨m_n, n1, n2, n3, n4⟩ := id hn
  have fr : Off M M c (c + 131) := Off.rf
  dsimp only at m_c hn hG hp hR m_n n1 n2 n3 n4
  unfold oCodeByte
  try dsimp only
  refine C.intro (pl := [some (.ref c), some (vI a)]) pn_X8 rfl (fun h => absurd h (by decide)) rfl (Nat.le_of_ble_eq_true rfl) rfl ?_
  by_cases hc : 0 ≤ a ∧ a < (sC σ).length
  · refine g_aload_n dX8_codeByte_0 rfl ?_
    refine z_getf fl_X8_12 dX8_codeByte_1 m_c rfl ?_
    refine z_getf fl_X8_161 dX8_codeByte_4 m_n rfl ?_
    refine g_iload_n dX8_codeByte_7 rfl ?_
    refine z_callVR dX8_codeByte_8 lm_X8_166 lk_X6_has (Row_has_t n2 (by omega)) rfl rfl n2.obj rfl (mkRoom rfl rfl) (Nat.le_of_ble_eq_true rfl) (Nat.le_of_ble_eq_true rfl) (Nat.le_of_ble_eq_true rfl) ?_
    refine z_if_eq (tgt := 28) dX8_codeByte_11 (by decide) (by omega) (fun c11 => absurd c11 (by omega)) (fun c11 => ?_)
    refine g_aload_n dX8_codeByte_14 rfl ?_
    refine z_getf fl_X8_12 dX8_codeByte_15 m_c rfl ?_
    refine z_getf fl_X8_161 dX8_codeByte_18 m_n rfl ?_
    refine g_iload_n dX8_codeByte_21 rfl ?_
    refine G.top (v' := vI ((a.toNat : Nat) : Int)) (by rw [Int.toNat_of_nonneg hc.1]) ?_
    refine z_callVR dX8_codeByte_22 lm_X8_105 lk_X6_item ((Row_item (j := a.toNat) n2 (by omega))) rfl rfl n2.obj rfl (mkRoom rfl rfl) (Nat.le_of_ble_eq_true rfl) (Nat.le_of_ble_eq_true rfl) (Nat.le_of_ble_eq_true rfl) ?_
    refine g_goto (tgt := 29) dX8_codeByte_25 (by decide) ?_
    exact g_ireturn dX8_codeByte_29 rfl (Nat.le_of_ble_eq_true rfl) (Nat.le_of_ble_eq_true rfl) ⟨rfl, by rw [if_pos hc], h, Off.rf⟩
  · refine g_aload_n dX8_codeByte_0 rfl ?_
    refine z_getf fl_X8_12 dX8_codeByte_1 m_c rfl ?_
    refine z_getf fl_X8_161 dX8_codeByte_4 m_n rfl ?_
    refine g_iload_n dX8_codeByte_7 rfl ?_
    refine z_callVR dX8_codeByte_8 lm_X8_166 lk_X6_has (Row_has_f n2 (by omega) (by omega)) rfl rfl n2.obj rfl (mkRoom rfl rfl) (Nat.le_of_ble_eq_true rfl) (Nat.le_of_ble_eq_true rfl) (Nat.le_of_ble_eq_true rfl) ?_
    refine z_if_eq (tgt := 28) dX8_codeByte_11 (by decide) (by omega) (fun c11 => ?_) (fun c11 => absurd c11 (by omega))
    refine z_iconst dX8_codeByte_28 ?_
    exact g_ireturn dX8_codeByte_29 rfl (Nat.le_of_ble_eq_true rfl) (Nat.le_of_ble_eq_true rfl) ⟨rfl, by rw [if_neg hc], h, Off.rf⟩
set_option maxHeartbeats 1000000 in
theorem c_decoded {M : pM} {z c : Nat} {k : kk} {a : Int} (h : CC M c k) (h_a : -2147483648 ≤ a ∧ a < 2147483648) : CK I_X8_decoded yX8_decoded c [vI a] M z (oDecoded a k) := by
  obtain ⟨σ, hs, x⟩ := k
  obtain ⟨m_c, hn, hG, hp, hR⟩ := id h
  have m_c : M c = _ := m_c
  obtain ⟨m_n, n1, n2, n3, n4⟩ := id hn
  have fr : Off M M c (c + 131) := Off.rf
  dsimp only at m_c hn hG hp hR m_n n1 n2 n3 n4
  unfold oDecoded
  try dsimp only
  refine C.intro (pl := [some (.ref c), some (vI a)]) pn_X8 rfl (fun h => absurd h (by decide)) rfl (Nat.le_of_ble_eq_true rfl) rfl ?_
  by_cases h0 : a < 0
  · refine g_iload_n dX8_decoded_0 rfl ?_
    refine z_if_ge (tgt := 6) dX8_decoded_1 (by decide) (by omega) (fun c1 => absurd c1 (by omega)) (fun c1 => ?_)
    refine z_iconst dX8_decoded_4 ?_
    exact g_ireturn dX8_decoded_5 rfl (Nat.le_of_ble_eq_true rfl) (Nat.le_of_ble_eq_true rfl) ⟨rfl, by rw [if_pos h0], h, Off.rf⟩
  · rw [if_neg h0]
    by_cases hc : a < (sR σ).length
    · refine g_iload_n dX8_decoded_0 rfl ?_
      refine z_if_ge (tgt := 6) dX8_decoded_1 (by decide) (by omega) (fun c1 => ?_) (fun c1 => absurd c1 (by omega))
      refine g_aload_n dX8_decoded_6 rfl ?_
      refine z_getf fl_X8_12 dX8_decoded_7 m_c rfl ?_
      refine z_getf fl_X8_176 dX8_decoded_10 m_n rfl ?_
      refine g_iload_n dX8_decoded_13 rfl ?_
      refine z_callVR dX8_decoded_14 lm_X8_166 lk_X6_has (Row_has_t n4 (by omega)) rfl rfl n4.obj rfl (mkRoom rfl rfl) (Nat.le_of_ble_eq_true rfl) (Nat.le_of_ble_eq_true rfl) (Nat.le_of_ble_eq_true rfl) ?_
      refine z_if_eq (tgt := 37) dX8_decoded_17 (by decide) (by omega) (fun c17 => absurd c17 (by omega)) (fun c17 => ?_)
      refine g_aload_n dX8_decoded_20 rfl ?_
      refine z_getf fl_X8_12 dX8_decoded_21 m_c rfl ?_
      refine z_getf fl_X8_176 dX8_decoded_24 m_n rfl ?_
      refine g_iload_n dX8_decoded_27 rfl ?_
      refine G.top (v' := vI ((a.toNat : Nat) : Int)) (by rw [Int.toNat_of_nonneg (by omega)]) ?_
      refine z_callVR dX8_decoded_28 lm_X8_105 lk_X6_item ((Row_item (j := a.toNat) n4 (by omega))) rfl rfl n4.obj rfl (mkRoom rfl rfl) (Nat.le_of_ble_eq_true rfl) (Nat.le_of_ble_eq_true rfl) (Nat.le_of_ble_eq_true rfl) ?_
      refine z_bipush dX8_decoded_31 (by decide +kernel) ?_
      refine z_iadd dX8_decoded_33 ?_
      refine g_goto (tgt := 39) dX8_decoded_34 (by decide) ?_
      exact g_ireturn dX8_decoded_39 rfl (Nat.le_of_ble_eq_true rfl) (Nat.le_of_ble_eq_true rfl) ⟨rfl, by rw [if_pos hc], h, Off.rf⟩
    · refine g_iload_n dX8_decoded_0 rfl ?_
      refine z_if_ge (tgt := 6) dX8_decoded_1 (by decide) (by omega) (fun c1 => ?_) (fun c1 => absurd c1 (by omega))
      refine g_aload_n dX8_decoded_6 rfl ?_
      refine z_getf fl_X8_12 dX8_decoded_7 m_c rfl ?_
      refine z_getf fl_X8_176 dX8_decoded_10 m_n rfl ?_
      refine g_iload_n dX8_decoded_13 rfl ?_
      refine z_callVR dX8_decoded_14 lm_X8_166 lk_X6_has (Row_has_f n4 (by omega) (by omega)) rfl rfl n4.obj rfl (mkRoom rfl rfl) (Nat.le_of_ble_eq_true rfl) (Nat.le_of_ble_eq_true rfl) (Nat.le_of_ble_eq_true rfl) ?_
      refine z_if_eq (tgt := 37) dX8_decoded_17 (by decide) (by omega) (fun c17 => ?_) (fun c17 => absurd c17 (by omega))
      refine z_bipush dX8_decoded_37 (by decide +kernel) ?_
      exact g_ireturn dX8_decoded_39 rfl (Nat.le_of_ble_eq_true rfl) (Nat.le_of_ble_eq_true rfl) ⟨rfl, by rw [if_neg hc], h, Off.rf⟩
set_option maxHeartbeats 1000000 in
theorem c_lg {M : pM} {z c : Nat} {k : kk} {a : Int} {t : Int} (h : CC M c k) (h_a : -2147483648 ≤ a ∧ a < 2147483648) (h_t : -2147483648 ≤ t ∧ t < 2147483648) : CK I_X8_lg yX8_lg c [vI a, vI t] M z (oLg a t k) := by
  obtain ⟨σ, hs, x⟩ := k
  obtain ⟨m_c, hn, hG, hp, hR⟩ := id h
  have m_c : M c = _ := m_c
  obtain ⟨m_n, n1, n2, n3, n4⟩ := id hn
  have fr : Off M M c (c + 131) := Off.rf
  dsimp only at m_c hn hG hp hR m_n n1 n2 n3 n4
  unfold oLg
  try dsimp only
  refine C.intro (pl := [some (.ref c), some (vI a), some (vI t)]) pn_X8 rfl (fun h => absurd h (by decide)) rfl (Nat.le_of_ble_eq_true rfl) rfl ?_
  refine g_iload_n dX8_lg_0 rfl ?_
  refine z_iconst dX8_lg_1 ?_
  refine z_icmp_lt (tgt := 21) dX8_lg_2 (by decide) (by omega) (by omega) (fun c2 => ?_) (fun c2 => ?_)
  · refine z_iconst dX8_lg_21 ?_
    exact g_ireturn dX8_lg_22 rfl (Nat.le_of_ble_eq_true rfl) (Nat.le_of_ble_eq_true rfl) ⟨rfl, by rw [if_neg (by omega)], h, Off.rf⟩
  · refine g_iload_n dX8_lg_5 rfl ?_
    refine z_ldc (1000000) dX8_lg_6 kc_X8_199 rfl ?_
    refine z_icmp_gt (tgt := 21) dX8_lg_8 (by decide) (by omega) (by omega) (fun c8 => ?_) (fun c8 => ?_)
    · refine z_iconst dX8_lg_21 ?_
      exact g_ireturn dX8_lg_22 rfl (Nat.le_of_ble_eq_true rfl) (Nat.le_of_ble_eq_true rfl) ⟨rfl, by rw [if_neg (by omega)], h, Off.rf⟩
    · refine g_iload_n dX8_lg_11 rfl ?_
      refine z_iconst dX8_lg_12 ?_
      refine z_icmp_lt (tgt := 21) dX8_lg_13 (by decide) (by omega) (by omega) (fun c13 => ?_) (fun c13 => ?_)
      · refine z_iconst dX8_lg_21 ?_
        exact g_ireturn dX8_lg_22 rfl (Nat.le_of_ble_eq_true rfl) (Nat.le_of_ble_eq_true rfl) ⟨rfl, by rw [if_neg (by omega)], h, Off.rf⟩
      · refine g_iload_n dX8_lg_16 rfl ?_
        refine g_iload_n dX8_lg_17 rfl ?_
        refine z_icmp_le (tgt := 23) dX8_lg_18 (by decide) (by omega) (by omega) (fun c18 => ?_) (fun c18 => ?_)
        · refine g_iload_n dX8_lg_23 rfl ?_
          refine g_iload_n dX8_lg_24 rfl ?_
          refine z_callSR dX8_lg_25 lm_X8_200 lk_X8_intervalCost (x_intervalCost (by omega) (by omega)) rfl rfl (mkRoom rfl rfl) (Nat.le_of_ble_eq_true rfl) (Nat.le_of_ble_eq_true rfl) (Nat.le_of_ble_eq_true rfl) ?_
          exact g_ireturn dX8_lg_28 rfl (Nat.le_of_ble_eq_true rfl) (Nat.le_of_ble_eq_true rfl) ⟨rfl, by rw [if_pos (by omega)], h, Off.rf⟩
        · refine z_iconst dX8_lg_21 ?_
          exact g_ireturn dX8_lg_22 rfl (Nat.le_of_ble_eq_true rfl) (Nat.le_of_ble_eq_true rfl) ⟨rfl, by rw [if_neg (by omega)], h, Off.rf⟩
