/-! the encoder's end; the class Decoder -/
def zf (low range : Int) : Nat → Nat
  | 0 => 0
  | z + 1 => if low + range ≤ lm low (z + 1) then zf low range z else z + 1
theorem zf_le (low range : Int) : ∀ n : Nat, zf low range n ≤ n
  | 0 => Nat.le_refl _
  | n + 1 => by
    rw [zf]
    split
    · have := zf_le low range n; omega
    · exact Nat.le_refl _
def byt (v : Int) (n : Nat) : List Int := (List.range n).map (fun i => v / 2 ^ (24 - 8 * i) % 256)
theorem byt_s (v : Int) (n : Nat) : byt v (n + 1) = byt v n ++ [v / 2 ^ (24 - 8 * n) % 256] := by unfold byt; rw [List.range_succ, List.map_append]; rfl
theorem byt_len (v : Int) (n : Nat) : (byt v n).length = n := by simp [byt]
theorem byt_ok (v : Int) (n : Nat) : okB (byt v n) := fun x hx => by
  obtain ⟨i, -, rfl⟩ := List.mem_map.mp hx
  omega
def strip (ys : List Int) : List Int := (ys.reverse.dropWhile (fun x => decide (x = 0))).reverse
theorem strip_0 (ys : List Int) : strip (ys ++ [0]) = strip ys := by simp [strip]
theorem strip_n (ys : List Int) {x : Int} (h : x ≠ 0) : strip (ys ++ [x]) = ys ++ [x] := by simp [strip, h]
theorem strip_len (ys : List Int) : (strip ys).length ≤ ys.length := by
  unfold strip
  rw [List.length_reverse]
  have := (List.dropWhile_suffix (l := ys.reverse) (fun x => decide (x = 0))).length_le
  simpa using this
theorem strip_mem {ys : List Int} {x : Int} (h : x ∈ strip ys) : x ∈ ys := by
  unfold strip at h
  rw [List.mem_reverse] at h
  have := (List.dropWhile_suffix (l := ys.reverse) (fun x => decide (x = 0))).subset h
  simpa using this
theorem snoc_of {ys : List Int} {n : Nat} (h : ys.length = n + 1) : ys = ys.take n ++ [ys.getD n 0] := by
  conv => lhs; rw [← List.take_length (l := ys), h, List.take_succ, List.getElem?_eq_getElem (by omega)]
  rw [List.getD_eq_getElem?_getD, List.getElem?_eq_getElem (by omega)]
  rfl
/-- the end of a code -/
def efin (e : es) : es :=
  let z := zf e.1 e.2.1 4
  let v := lm e.1 z
  let w : List Int × Int × Int := if 4294967296 ≤ v then ((cry e.2.2.1).1, max e.2.2.2 (cry e.2.2.1).2, 0) else (e.2.2.1, e.2.2.2, v)
  (e.1, e.2.1, strip (w.1 ++ byt w.2.2 (4 - z)), w.2.1)
set_option maxHeartbeats 1000000 in
theorem En_finish {M : pM} {z en n : Nat} {low range lng : Int} {out : List Int} (h : En M en low range out lng) (hk : okN (low, range, out, lng) n) (hn : n ≤ 4024) : CW I_X2_finish yX2_finish [.ref en] M z (fun M' r => r = none ∧ En M' en low range (efin (low, range, out, lng)).2.2.1 (efin (low, range, out, lng)).2.2.2 ∧ Off M M' en (en + 3)) := by
  obtain ⟨m_e, hw⟩ := id h
  have m_w := hw.obj
  have hwl := hw.len
  have fr : Off M M en (en + 3) := Off.rf
  obtain ⟨k1, k2, k3, k4, k5, k6⟩ := id hk
  simp only at k1 k2 k3 k4 k5 k6
  have hcr := cryL_ok out.length out 0 k3
  refine C.intro (pl := [some (.ref en), none, none, none, none]) pn_X2 rfl (fun h => absurd h (by decide)) rfl (Nat.le_of_ble_eq_true rfl) rfl ?_
  have strp : ∀ (j : Nat) (ys : List Int) (lng : Int) (M1 : pM) (K1 K2 : Value), ys.length = j → j ≤ 4028 → okB ys → En M1 en low range ys lng → Off M M1 en (en + 3) → K2.category = 2 → G I_X2_finish 0 0 (fun M' z' r' => z' = z ∧ r' = none ∧ En M' en low range (strip ys) lng ∧ Off M M' en (en + 3)) 0 0 100 [some (.ref en), some K1, some K2, none, some (vI ((j : Int) - 1))] [] M1 z := by
    intro j
    induction j with
    | zero =>
      intro ys lng M K1 K2 hl hj hb h fr hK
      have e : ys = [] := List.eq_nil_of_length_eq_zero hl
      subst e
      refine g_iload dX2_finish_100 rfl ?_
      refine z_if_lt (tgt := 131) dX2_finish_102 (by decide) (by omega) (fun c102 => ?_) (fun c102 => absurd c102 (by omega))
      exact g_return dX2_finish_131 rfl (Nat.le_of_ble_eq_true rfl) (Nat.le_of_ble_eq_true rfl) ⟨rfl, rfl, h, fr⟩
    | succ j ih =>
      intro ys lng M K1 K2 hl hj hb h fr hK
      obtain ⟨m_e, hw⟩ := id h
      have m_w := hw.obj
      have hbj := hb.get j
      have hs := snoc_of hl
      have e0 : (((j + 1 : Nat) : Int) - 1) = (j : Int) := by omega
      rw [e0]
      have hz : ys.getD j 0 = 0 → strip ys = strip (ys.take j) := fun q => by rw [q] at hs; rw [hs, strip_0, ← hs]
      have hnz : ys.getD j 0 ≠ 0 → strip ys = ys := fun q => by rw [hs, strip_n _ q, ← hs]
      have ih2 := fun M2 h2 fr2 => ih (ys.take j) lng M2 K1 K2 (by rw [List.length_take]; omega) (by omega) (fun x hx => hb x (List.mem_of_mem_take hx)) h2 fr2 hK
      refine g_iload dX2_finish_100 rfl ?_
      refine z_if_lt (tgt := 131) dX2_finish_102 (by decide) (by omega) (fun c102 => absurd c102 (by omega)) (fun c102 => ?_)
      refine g_aload_n dX2_finish_105 rfl ?_
      refine z_getf fl_X2_14 dX2_finish_106 m_e rfl ?_
      refine g_iload dX2_finish_109 rfl ?_
      refine z_callVR dX2_finish_111 lm_X2_49 lk_X6_item (Row_item (j := j) hw (by omega)) rfl rfl hw.obj rfl (mkRoom rfl rfl) (Nat.le_of_ble_eq_true rfl) (Nat.le_of_ble_eq_true rfl) (Nat.le_of_ble_eq_true rfl) ?_
      refine z_if_ne (tgt := 131) dX2_finish_114 (by decide) (by omega) (fun c114 => ?_) (fun c114 => ?_)
      · exact g_return dX2_finish_131 rfl (Nat.le_of_ble_eq_true rfl) (Nat.le_of_ble_eq_true rfl) ⟨rfl, rfl, by rw [hnz c114]; exact h, fr⟩
      · refine g_aload_n dX2_finish_117 rfl ?_
        refine z_getf fl_X2_14 dX2_finish_118 m_e rfl ?_
        refine z_iconst dX2_finish_121 ?_
        refine z_callVV dX2_finish_122 lm_X2_69 lk_X6_drop (Row_drop (j := 1) hw (by omega)) rfl rfl hw.obj rfl (mkRoom rfl rfl) (Nat.le_of_ble_eq_true rfl) (Nat.le_of_ble_eq_true rfl) (Nat.le_of_ble_eq_true rfl) (fun M r hp => ?_)
        obtain ⟨rfl, hw, o1⟩ := hp
        rw [show ys.length - 1 = j by omega] at hw
        have m_e := (o1 _ (by omega)).trans m_e
        have m_w := hw.obj
        have fr := fr.tr (o1.wd (by omega) (by omega))
        refine z_iinc dX2_finish_125 rfl (Nat.le_of_ble_eq_true rfl) ?_
        refine g_goto (tgt := 100) dX2_finish_128 (by decide) ?_
        rw [hz c114]
        exact ih2 M ⟨m_e, hw⟩ fr
  have app : ∀ (j k : Nat) (ys : List Int) (lng v : Int) (M1 : pM) (zz : Nat), zz ≤ 4 → k ≤ 4 - zz → 4 - zz - k = j → 0 ≤ v ∧ v ≤ 4294967296 → ys.length ≤ 4024 → okB ys → En M1 en low range (ys ++ byt v k) lng → Off M M1 en (en + 3) → G I_X2_finish 0 0 (fun M' z' r' => z' = z ∧ r' = none ∧ En M' en low range (strip (ys ++ byt v (4 - zz))) lng ∧ Off M M' en (en + 3)) 0 0 53 [some (.ref en), some (vI (zz : Int)), some (vL v), none, some (vI (k : Int))] [] M1 z := by
    intro j
    induction j with
    | zero =>
      intro k ys lng v M zz hzz hk hj hv hl hb h fr
      have ek : k = 4 - zz := by omega
      subst ek
      obtain ⟨m_e, hw⟩ := id h
      have m_w := hw.obj
      have hlen : (ys ++ byt v (4 - zz)).length = ys.length + (4 - zz) := by rw [List.length_append, byt_len]
      have hok : okB (ys ++ byt v (4 - zz)) := fun x hx => (List.mem_append.mp hx).elim (hb x) (byt_ok v _ x)
      refine g_iload dX2_finish_53 rfl ?_
      refine z_iconst dX2_finish_55 ?_
      refine g_iload_n dX2_finish_56 rfl ?_
      refine z_isub dX2_finish_57 ?_
      refine z_icmp_ge (tgt := 89) dX2_finish_58 (by decide) (by omega) (by omega) (fun c58 => ?_) (fun c58 => absurd c58 (by omega))
      refine g_aload_n dX2_finish_89 rfl ?_
      refine z_getf fl_X2_14 dX2_finish_90 m_e rfl ?_
      refine z_getf fl_X2_46 dX2_finish_93 m_w rfl ?_
      refine z_iconst dX2_finish_96 ?_
      refine z_isub dX2_finish_97 ?_
      refine g_istore dX2_finish_98 (Nat.le_of_ble_eq_true rfl) ?_
      exact strp _ _ lng M _ _ rfl (by omega) hok h fr rfl
    | succ j ih =>
      intro k ys lng v M zz hzz hk hj hv hl hb h fr
      obtain ⟨m_e, hw⟩ := id h
      have m_w := hw.obj
      have hlen : (ys ++ byt v k).length = ys.length + k := by rw [List.length_append, byt_len]
      have e24 : (24 : Int) - 8 * (k : Int) = ((24 - 8 * k : Nat) : Int) := by omega
      have hdv : 0 ≤ v / 2 ^ (24 - 8 * k) := Int.ediv_nonneg hv.1 (Int.le_of_lt (Int.pow_pos (by decide)))
      have ih2 := fun M2 h2 fr2 => ih (k + 1) ys lng v M2 zz hzz (by omega) (by omega) hv hl hb h2 fr2
      rw [byt_s, ← List.append_assoc] at ih2
      refine g_iload dX2_finish_53 rfl ?_
      refine z_iconst dX2_finish_55 ?_
      refine g_iload_n dX2_finish_56 rfl ?_
      refine z_isub dX2_finish_57 ?_
      refine z_icmp_ge (tgt := 89) dX2_finish_58 (by decide) (by omega) (by omega) (fun c58 => absurd c58 (by omega)) (fun c58 => ?_)
      refine g_aload_n dX2_finish_61 rfl ?_
      refine z_getf fl_X2_14 dX2_finish_62 m_e rfl ?_
      refine g_lload_n dX2_finish_65 rfl ?_
      refine z_bipush dX2_finish_66 (by decide +kernel) ?_
      refine z_bipush dX2_finish_68 (by decide +kernel) ?_
      refine g_iload dX2_finish_70 rfl ?_
      refine z_imul dX2_finish_72 ?_
      refine z_isub dX2_finish_73 ?_
      refine g_lshr dX2_finish_74 ?_
      refine G.top (v' := vL (v / 2 ^ (24 - 8 * k))) (by rw [e24, lZ_shr (by omega) (by omega)]) ?_
      refine z_ldc2 (255) dX2_finish_75 kc_X2_67 rfl ?_
      refine g_land dX2_finish_78 ?_
      refine G.top (v' := vL (v / 2 ^ (24 - 8 * k) % 256)) (by rw [lZ_and255 hdv]) ?_
      refine z_l2i dX2_finish_79 (by omega) ?_
      refine z_callVV dX2_finish_80 lm_X2_41 lk_X6_push (Row_push hw) rfl rfl hw.obj rfl (mkRoom rfl rfl) (Nat.le_of_ble_eq_true rfl) (Nat.le_of_ble_eq_true rfl) (Nat.le_of_ble_eq_true rfl) (fun M r hp => ?_)
      obtain ⟨rfl, hw, o1⟩ := hp
      rw [if_pos (by omega)] at hw
      have m_e := (o1 _ (by omega)).trans m_e
      have m_w := hw.obj
      have fr := fr.tr (o1.wd (by omega) (by omega))
      refine z_iinc dX2_finish_83 rfl (Nat.le_of_ble_eq_true rfl) ?_
      refine g_goto (tgt := 53) dX2_finish_86 (by decide) ?_
      exact ih2 M ⟨m_e, hw⟩ fr
  have tail : ∀ zz : Nat, zz = zf low range 4 → zz ≤ 4 → G I_X2_finish 0 0 (fun M' z' r' => z' = z ∧ r' = none ∧ En M' en low range (efin (low, range, out, lng)).2.2.1 (efin (low, range, out, lng)).2.2.2 ∧ Off M M' en (en + 3)) 0 0 30 [some (.ref en), some (vI (zz : Int)), none, none, none] [] M z := by
    intro zz hz hz4
    have hlb := lm_b zz k1 hz4
    unfold efin
    dsimp only
    rw [← hz]
    refine g_aload_n dX2_finish_30 rfl ?_
    refine g_iload_n dX2_finish_31 rfl ?_
    refine z_callVR dX2_finish_32 lm_X2_63 lk_X2_leastMultiple (En_lm (k := zz) h k1 hz4) rfl rfl m_e rfl (mkRoom rfl rfl) (Nat.le_of_ble_eq_true rfl) (Nat.le_of_ble_eq_true rfl) (Nat.le_of_ble_eq_true rfl) ?_
    refine g_lstore_n dX2_finish_35 rfl (Nat.le_of_ble_eq_true rfl) ?_
    refine g_lload_n dX2_finish_36 rfl ?_
    refine z_ldc2 (4294967296) dX2_finish_37 kc_X2_24 rfl ?_
    refine z_lcmp dX2_finish_40 (by omega) (by omega) (fun c40 => ?_) (fun c40 => ?_) (fun c40 => ?_)
    · refine z_if_lt (tgt := 50) dX2_finish_41 (by decide) (by decide) (fun q => absurd q (by decide)) (fun _ => ?_)
      refine g_aload_n dX2_finish_44 rfl ?_
      refine z_callVV dX2_finish_45 lm_X2_36 lk_X2_carry (En_carry h k3 (by omega)) rfl rfl m_e rfl (mkRoom rfl rfl) (Nat.le_of_ble_eq_true rfl) (Nat.le_of_ble_eq_true rfl) (Nat.le_of_ble_eq_true rfl) (fun M r hp => ?_)
      obtain ⟨rfl, h, o1⟩ := hp
      have fr := fr.tr o1
      refine z_lconst (a := 0) dX2_finish_48 rfl ?_
      refine g_lstore_n dX2_finish_49 rfl (Nat.le_of_ble_eq_true rfl) ?_
      refine z_iconst dX2_finish_50 ?_
      refine g_istore dX2_finish_51 (Nat.le_of_ble_eq_true rfl) ?_
      rw [if_pos (by omega)]
      exact app (4 - zz) 0 (cry out).1 (max lng (cry out).2) 0 M zz hz4 (by omega) (by omega) (by omega) (by have : (cry out).1.length = out.length := hcr.2.1; omega) hcr.1 (by rw [show byt 0 0 = [] from rfl, List.append_nil]; exact h) fr
    · refine z_if_lt (tgt := 50) dX2_finish_41 (by decide) (by decide) (fun q => absurd q (by decide)) (fun _ => ?_)
      refine g_aload_n dX2_finish_44 rfl ?_
      refine z_callVV dX2_finish_45 lm_X2_36 lk_X2_carry (En_carry h k3 (by omega)) rfl rfl m_e rfl (mkRoom rfl rfl) (Nat.le_of_ble_eq_true rfl) (Nat.le_of_ble_eq_true rfl) (Nat.le_of_ble_eq_true rfl) (fun M r hp => ?_)
      obtain ⟨rfl, h, o1⟩ := hp
      have fr := fr.tr o1
      refine z_lconst (a := 0) dX2_finish_48 rfl ?_
      refine g_lstore_n dX2_finish_49 rfl (Nat.le_of_ble_eq_true rfl) ?_
      refine z_iconst dX2_finish_50 ?_
      refine g_istore dX2_finish_51 (Nat.le_of_ble_eq_true rfl) ?_
      rw [if_pos (by omega)]
      exact app (4 - zz) 0 (cry out).1 (max lng (cry out).2) 0 M zz hz4 (by omega) (by omega) (by omega) (by have : (cry out).1.length = out.length := hcr.2.1; omega) hcr.1 (by rw [show byt 0 0 = [] from rfl, List.append_nil]; exact h) fr
    · refine z_if_lt (tgt := 50) dX2_finish_41 (by decide) (by decide) (fun _ => ?_) (fun q => absurd q (by decide))
      refine z_iconst dX2_finish_50 ?_
      refine g_istore dX2_finish_51 (Nat.le_of_ble_eq_true rfl) ?_
      rw [if_neg (by omega)]
      exact app (4 - zz) 0 out lng (lm low zz) M zz hz4 (by omega) (by omega) (by omega) (by omega) k3 (by rw [show byt (lm low zz) 0 = [] from rfl, List.append_nil]; exact h) fr
  have zloop : ∀ zz : Nat, zz ≤ 4 → zf low range 4 = zf low range zz → G I_X2_finish 0 0 (fun M' z' r' => z' = z ∧ r' = none ∧ En M' en low range (efin (low, range, out, lng)).2.2.1 (efin (low, range, out, lng)).2.2.2 ∧ Off M M' en (en + 3)) 0 0 2 [some (.ref en), some (vI (zz : Int)), none, none, none] [] M z := by
    intro zz
    induction zz with
    | zero =>
      intro hz4 hz
      refine g_iload_n dX2_finish_2 rfl ?_
      refine z_if_le (tgt := 30) dX2_finish_3 (by decide) (by omega) (fun c3 => ?_) (fun c3 => absurd c3 (by omega))
      exact tail 0 hz.symm (by omega)
    | succ zz ih =>
      intro hz4 hz
      have hlb := lm_b (zz + 1) k1 hz4
      have hz' : zf low range (zz + 1) = if low + range ≤ lm low (zz + 1) then zf low range zz else zz + 1 := rfl
      rw [hz'] at hz
      refine g_iload_n dX2_finish_2 rfl ?_
      refine z_if_le (tgt := 30) dX2_finish_3 (by decide) (by omega) (fun c3 => absurd c3 (by omega)) (fun c3 => ?_)
      refine g_aload_n dX2_finish_6 rfl ?_
      refine g_iload_n dX2_finish_7 rfl ?_
      refine z_callVR dX2_finish_8 lm_X2_63 lk_X2_leastMultiple (En_lm (k := zz + 1) h k1 hz4) rfl rfl m_e rfl (mkRoom rfl rfl) (Nat.le_of_ble_eq_true rfl) (Nat.le_of_ble_eq_true rfl) (Nat.le_of_ble_eq_true rfl) ?_
      refine g_aload_n dX2_finish_11 rfl ?_
      refine z_getf fl_X2_20 dX2_finish_12 m_e rfl ?_
      refine g_aload_n dX2_finish_15 rfl ?_
      refine z_getf fl_X2_26 dX2_finish_16 m_e rfl ?_
      refine z_ladd dX2_finish_19 ?_
      refine z_lcmp dX2_finish_20 (by omega) (by omega) (fun c20 => ?_) (fun c20 => ?_) (fun c20 => ?_)
      · refine z_if_lt (tgt := 30) dX2_finish_21 (by decide) (by decide) (fun q => absurd q (by decide)) (fun _ => ?_)
        refine z_iinc dX2_finish_24 rfl (Nat.le_of_ble_eq_true rfl) ?_
        refine g_goto (tgt := 2) dX2_finish_27 (by decide) ?_
        rw [if_pos (by omega)] at hz
        rw [show (((zz + 1 : Nat) : Int) + -1) = (zz : Int) by omega]
        exact ih (by omega) hz
      · refine z_if_lt (tgt := 30) dX2_finish_21 (by decide) (by decide) (fun q => absurd q (by decide)) (fun _ => ?_)
        refine z_iinc dX2_finish_24 rfl (Nat.le_of_ble_eq_true rfl) ?_
        refine g_goto (tgt := 2) dX2_finish_27 (by decide) ?_
        rw [if_pos (by omega)] at hz
        rw [show (((zz + 1 : Nat) : Int) + -1) = (zz : Int) by omega]
        exact ih (by omega) hz
      · refine z_if_lt (tgt := 30) dX2_finish_21 (by decide) (by decide) (fun _ => ?_) (fun q => absurd q (by decide))
        rw [if_neg (by omega)] at hz
        exact tail (zz + 1) hz.symm hz4
  refine z_iconst dX2_finish_0 ?_
  refine g_istore_n dX2_finish_1 rfl (Nat.le_of_ble_eq_true rfl) ?_
  exact zloop 4 (by omega) rfl
/-- a decoder's state: the next byte's place, the distance, the range -/
abbrev ds : Type := Nat × Int × Int
def De (M : pM) (de cd : Nat) (d : ds) : Prop := M de = some (ob 1 [.ref cd, vI d.1, vL d.2.1, vL d.2.2])
theorem De.off {M M' : pM} {de cd lo hi : Nat} {d : ds} (h : De M de cd d) (ho : Off M M' lo hi) (hd : de + 1 ≤ lo ∨ hi ≤ de) : De M' de cd d := (ho _ (by omega)).trans h
def sh1 (cs : List Int) (d : ds) : ds := (d.1 + 1, (d.2.1 * 256 + cs.getD d.1 0) % 4294967296, d.2.2)
def dbeg (cs : List Int) : ds := ((sh1 cs (sh1 cs (sh1 cs (sh1 cs (0, 0, 0))))).1, (sh1 cs (sh1 cs (sh1 cs (sh1 cs (0, 0, 0))))).2.1, 4294967296)
def dnum (d : ds) (t : Int) : Int := min (t - 1) (d.2.1 / (d.2.2 / t))
def dsf (cs : List Int) : Nat → ds → ds
  | 0, d => d
  | n + 1, d => if d.2.2 ≤ 16777216 then dsf cs n ((sh1 cs d).1, (sh1 cs d).2.1, d.2.2 * 256) else d
def div_ (cs : List Int) (d : ds) (x : iv) : ds := dsf cs 4 (d.1, d.2.1 - d.2.2 / x.2.2 * x.1, ivr d.2.2 x)
def okD (d : ds) (n : Nat) : Prop := d.1 ≤ n ∧ (0 ≤ d.2.1 ∧ d.2.1 < d.2.2) ∧ (16777216 < d.2.2 ∧ d.2.2 ≤ 4294967296)
set_option maxHeartbeats 1000000 in
theorem De_shift {M : pM} {z de cd N nx : Nat} {di : Int} {w3 : Value} {cs : List Int} (m_d : M de = some (ob 1 [.ref cd, vI nx, vL di, w3])) (hc : Rw M cd N cs) (hb : okB cs) (hcd : cd + 2 ≤ de ∨ de < cd) (hn : nx < 1000000) (h0 : 0 ≤ di ∧ di ≤ 4294967296) : CW I_X1_shift yX1_shift [.ref de] M z (fun M' r => r = none ∧ M' de = some (ob 1 [.ref cd, vI ((nx + 1 : Nat) : Int), vL ((di * 256 + cs.getD nx 0) % 4294967296), w3]) ∧ Off M M' de (de + 1)) := by
  have fr : Off M M de (de + 1) := Off.rf
  have hbg := hb.get nx
  refine C.intro (pl := [some (.ref de), none]) pn_X1 rfl (fun h => absurd h (by decide)) rfl (Nat.le_of_ble_eq_true rfl) rfl ?_
  refine g_aload_n dX1_shift_0 rfl ?_
  refine z_getf fl_X1_9 dX1_shift_1 m_d rfl ?_
  refine g_ifnonnull (tgt := 11) dX1_shift_4 (by decide) ?_
  refine g_aload_n dX1_shift_11 rfl ?_
  refine z_getf fl_X1_9 dX1_shift_12 m_d rfl ?_
  refine g_aload_n dX1_shift_15 rfl ?_
  refine z_getf fl_X1_15 dX1_shift_16 m_d rfl ?_
  refine z_callVR dX1_shift_19 lm_X1_31 lk_X6_item (Row_item (j := nx) hc (by omega)) rfl rfl hc.obj rfl (mkRoom rfl rfl) (Nat.le_of_ble_eq_true rfl) (Nat.le_of_ble_eq_true rfl) (Nat.le_of_ble_eq_true rfl) ?_
  refine g_istore_n dX1_shift_22 rfl (Nat.le_of_ble_eq_true rfl) ?_
  refine g_aload_n dX1_shift_23 rfl ?_
  refine g_aload_n dX1_shift_24 rfl ?_
  refine z_getf fl_X1_19 dX1_shift_25 m_d rfl ?_
  refine z_ldc2 (256) dX1_shift_28 kc_X1_37 rfl ?_
  refine z_lmul dX1_shift_31 ?_
  refine g_iload_n dX1_shift_32 rfl ?_
  refine z_i2l dX1_shift_33 (by omega) ?_
  refine z_ladd dX1_shift_34 ?_
  refine z_ldc2 (4294967296) dX1_shift_35 kc_X1_26 rfl ?_
  refine z_lrem dX1_shift_38 (by omega) (by omega) ?_
  refine z_putf fl_X1_19 dX1_shift_39 m_d rfl (Nat.le_of_ble_eq_true rfl) rfl rfl (fun M m_d o => ?_)
  have fr := fr.one o (by omega)
  have o1 : Off _ M de (de + 1) := fun x hx => o x (by omega)
  have hc := hc.off o1 (by omega)
  refine g_aload_n dX1_shift_42 rfl ?_
  refine g_dup dX1_shift_43 rfl ?_
  refine z_getf fl_X1_15 dX1_shift_44 m_d rfl ?_
  refine z_iconst dX1_shift_47 ?_
  refine z_iadd dX1_shift_48 ?_
  refine z_putf fl_X1_15 dX1_shift_49 m_d rfl (Nat.le_of_ble_eq_true rfl) rfl rfl (fun M m_d o => ?_)
  have fr := fr.one o (by omega)
  have o1 : Off _ M de (de + 1) := fun x hx => o x (by omega)
  have hc := hc.off o1 (by omega)
  exact g_return dX1_shift_52 rfl (Nat.le_of_ble_eq_true rfl) (Nat.le_of_ble_eq_true rfl) ⟨rfl, rfl, m_d, fr⟩
set_option maxHeartbeats 1000000 in
theorem De_begin {M : pM} {z de cd N : Nat} {cs : List Int} {w0 w1 w2 w3 : Value} (m_d : M de = some (ob 1 [w0, w1, w2, w3])) (hc : Rw M cd N cs) (hb : okB cs) (hcd : cd + 2 ≤ de ∨ de < cd) : CW I_X1_begin yX1_begin [.ref de, .ref cd] M z (fun M' r => r = none ∧ De M' de cd (dbeg cs) ∧ Off M M' de (de + 1)) := by
  have fr : Off M M de (de + 1) := Off.rf
  refine C.intro (pl := [some (.ref de), some (.ref cd), none]) pn_X1 rfl (fun h => absurd h (by decide)) rfl (Nat.le_of_ble_eq_true rfl) rfl ?_
  refine g_aload_n dX1_begin_0 rfl ?_
  refine g_aload_n dX1_begin_1 rfl ?_
  refine z_putf fl_X1_9 dX1_begin_2 m_d rfl (Nat.le_of_ble_eq_true rfl) rfl rfl (fun M m_d o => ?_)
  have fr := fr.one o (by omega)
  have o1 : Off _ M de (de + 1) := fun x hx => o x (by omega)
  have hc := hc.off o1 (by omega)
  refine g_aload_n dX1_begin_5 rfl ?_
  refine z_iconst dX1_begin_6 ?_
  refine z_putf fl_X1_15 dX1_begin_7 m_d rfl (Nat.le_of_ble_eq_true rfl) rfl rfl (fun M m_d o => ?_)
  have fr := fr.one o (by omega)
  have o1 : Off _ M de (de + 1) := fun x hx => o x (by omega)
  have hc := hc.off o1 (by omega)
  refine g_aload_n dX1_begin_10 rfl ?_
  refine z_lconst (a := 0) dX1_begin_11 rfl ?_
  refine z_putf fl_X1_19 dX1_begin_12 m_d rfl (Nat.le_of_ble_eq_true rfl) rfl rfl (fun M m_d o => ?_)
  have fr := fr.one o (by omega)
  have o1 : Off _ M de (de + 1) := fun x hx => o x (by omega)
  have hc := hc.off o1 (by omega)
  have m_d : M de = some (ob 1 [.ref cd, vI ((0 : Nat) : Int), vL 0, w3]) := m_d
  refine z_iconst dX1_begin_15 ?_
  refine g_istore_n dX1_begin_16 rfl (Nat.le_of_ble_eq_true rfl) ?_
  refine g_iload_n dX1_begin_17 rfl ?_
  refine z_iconst dX1_begin_18 ?_
  refine z_icmp_ge (tgt := 32) dX1_begin_19 (by decide) (by omega) (by omega) (fun c19 => absurd c19 (by omega)) (fun c19 => ?_)
  refine g_aload_n dX1_begin_22 rfl ?_
  refine z_callVV dX1_begin_23 lm_X1_23 lk_X1_shift (De_shift m_d hc hb (by omega) (by omega) (by omega)) rfl rfl m_d rfl (mkRoom rfl rfl) (Nat.le_of_ble_eq_true rfl) (Nat.le_of_ble_eq_true rfl) (Nat.le_of_ble_eq_true rfl) (fun M r hp => ?_)
  obtain ⟨rfl, m_d, o1⟩ := hp
  have hc := hc.off o1 (by omega)
  have fr := fr.tr o1
  refine z_iinc dX1_begin_26 rfl (Nat.le_of_ble_eq_true rfl) ?_
  refine g_goto (tgt := 17) dX1_begin_29 (by decide) ?_
  refine g_iload_n dX1_begin_17 rfl ?_
  refine z_iconst dX1_begin_18 ?_
  refine z_icmp_ge (tgt := 32) dX1_begin_19 (by decide) (by omega) (by omega) (fun c19 => absurd c19 (by omega)) (fun c19 => ?_)
  refine g_aload_n dX1_begin_22 rfl ?_
  refine z_callVV dX1_begin_23 lm_X1_23 lk_X1_shift (De_shift m_d hc hb (by omega) (by omega) (by omega)) rfl rfl m_d rfl (mkRoom rfl rfl) (Nat.le_of_ble_eq_true rfl) (Nat.le_of_ble_eq_true rfl) (Nat.le_of_ble_eq_true rfl) (fun M r hp => ?_)
  obtain ⟨rfl, m_d, o1⟩ := hp
  have hc := hc.off o1 (by omega)
  have fr := fr.tr o1
  refine z_iinc dX1_begin_26 rfl (Nat.le_of_ble_eq_true rfl) ?_
  refine g_goto (tgt := 17) dX1_begin_29 (by decide) ?_
  refine g_iload_n dX1_begin_17 rfl ?_
  refine z_iconst dX1_begin_18 ?_
  refine z_icmp_ge (tgt := 32) dX1_begin_19 (by decide) (by omega) (by omega) (fun c19 => absurd c19 (by omega)) (fun c19 => ?_)
  refine g_aload_n dX1_begin_22 rfl ?_
  refine z_callVV dX1_begin_23 lm_X1_23 lk_X1_shift (De_shift m_d hc hb (by omega) (by omega) (by omega)) rfl rfl m_d rfl (mkRoom rfl rfl) (Nat.le_of_ble_eq_true rfl) (Nat.le_of_ble_eq_true rfl) (Nat.le_of_ble_eq_true rfl) (fun M r hp => ?_)
  obtain ⟨rfl, m_d, o1⟩ := hp
  have hc := hc.off o1 (by omega)
  have fr := fr.tr o1
  refine z_iinc dX1_begin_26 rfl (Nat.le_of_ble_eq_true rfl) ?_
  refine g_goto (tgt := 17) dX1_begin_29 (by decide) ?_
  refine g_iload_n dX1_begin_17 rfl ?_
  refine z_iconst dX1_begin_18 ?_
  refine z_icmp_ge (tgt := 32) dX1_begin_19 (by decide) (by omega) (by omega) (fun c19 => absurd c19 (by omega)) (fun c19 => ?_)
  refine g_aload_n dX1_begin_22 rfl ?_
  refine z_callVV dX1_begin_23 lm_X1_23 lk_X1_shift (De_shift m_d hc hb (by omega) (by omega) (by omega)) rfl rfl m_d rfl (mkRoom rfl rfl) (Nat.le_of_ble_eq_true rfl) (Nat.le_of_ble_eq_true rfl) (Nat.le_of_ble_eq_true rfl) (fun M r hp => ?_)
  obtain ⟨rfl, m_d, o1⟩ := hp
  have hc := hc.off o1 (by omega)
  have fr := fr.tr o1
  refine z_iinc dX1_begin_26 rfl (Nat.le_of_ble_eq_true rfl) ?_
  refine g_goto (tgt := 17) dX1_begin_29 (by decide) ?_
  refine g_iload_n dX1_begin_17 rfl ?_
  refine z_iconst dX1_begin_18 ?_
  refine z_icmp_ge (tgt := 32) dX1_begin_19 (by decide) (by omega) (by omega) (fun c19 => ?_) (fun c19 => absurd c19 (by omega))
  refine g_aload_n dX1_begin_32 rfl ?_
  refine z_ldc2 (4294967296) dX1_begin_33 kc_X1_26 rfl ?_
  refine z_putf fl_X1_28 dX1_begin_36 m_d rfl (Nat.le_of_ble_eq_true rfl) rfl rfl (fun M m_d o => ?_)
  have fr := fr.one o (by omega)
  have o1 : Off _ M de (de + 1) := fun x hx => o x (by omega)
  have hc := hc.off o1 (by omega)
  exact g_return dX1_begin_39 rfl (Nat.le_of_ble_eq_true rfl) (Nat.le_of_ble_eq_true rfl) ⟨rfl, rfl, m_d, fr⟩
set_option maxHeartbeats 1000000 in
theorem De_number {M : pM} {z de cd n : Nat} {d : ds} {t : Int} (h : De M de cd d) (hk : okD d n) (ht : 1 ≤ t ∧ t ≤ 65536) : CR I_X1_number yX1_number [.ref de, vI t] M z (some (vI (dnum d t))) := by
  have m_d : M de = some (ob 1 [.ref cd, vI d.1, vL d.2.1, vL d.2.2]) := h
  obtain ⟨k1, k2, k3⟩ := hk
  have hq : 256 ≤ d.2.2 / t := by rw [Int.le_ediv_iff_mul_le (by omega)]; omega
  have hq2 : d.2.2 / t ≤ d.2.2 := Int.ediv_le_self _ (by omega)
  have hd1 : 0 ≤ d.2.1 / (d.2.2 / t) := Int.ediv_nonneg k2.1 (by omega)
  have hd2 : d.2.1 / (d.2.2 / t) ≤ d.2.1 := Int.ediv_le_self _ k2.1
  refine C.intro (pl := [some (.ref de), some (vI t), none, none]) pn_X1 rfl (fun h => absurd h (by decide)) rfl (Nat.le_of_ble_eq_true rfl) rfl ?_
  refine g_iload_n dX1_number_0 rfl ?_
  refine z_iconst dX1_number_1 ?_
  refine z_icmp_ge (tgt := 9) dX1_number_2 (by decide) (by omega) (by omega) (fun c2 => ?_) (fun c2 => absurd c2 (by omega))
  refine g_aload_n dX1_number_9 rfl ?_
  refine z_getf fl_X1_28 dX1_number_10 m_d rfl ?_
  refine g_iload_n dX1_number_13 rfl ?_
  refine z_i2l dX1_number_14 (by omega) ?_
  refine z_ldiv dX1_number_15 (by omega) (by omega) ?_
  refine g_lstore_n dX1_number_16 rfl (Nat.le_of_ble_eq_true rfl) ?_
  refine g_lload_n dX1_number_17 rfl ?_
  refine z_lconst (a := 1) dX1_number_18 rfl ?_
  refine z_lcmp dX1_number_19 (by omega) (by omega) (fun c19 => ?_) (fun c19 => ?_) (fun c19 => ?_)
  · refine z_if_ge (tgt := 27) dX1_number_20 (by decide) (by decide) (fun _ => ?_) (fun q => absurd q (by decide))
    refine g_iload_n dX1_number_27 rfl ?_
    refine z_iconst dX1_number_28 ?_
    refine z_isub dX1_number_29 ?_
    refine z_i2l dX1_number_30 (by omega) ?_
    refine g_aload_n dX1_number_31 rfl ?_
    refine z_getf fl_X1_19 dX1_number_32 m_d rfl ?_
    refine g_lload_n dX1_number_35 rfl ?_
    refine z_ldiv dX1_number_36 (by omega) (by omega) ?_
    refine z_minL lj_X1_39 dX1_number_37 ⟨(Nat.le_of_ble_eq_true rfl), (Nat.le_of_ble_eq_true rfl)⟩ (Nat.le_of_ble_eq_true rfl) (Nat.le_of_ble_eq_true rfl) (by omega) (by omega) ?_
    refine z_l2i dX1_number_40 (by omega) ?_
    exact g_ireturn dX1_number_41 rfl (Nat.le_of_ble_eq_true rfl) (Nat.le_of_ble_eq_true rfl) ⟨rfl, rfl, rfl⟩
  · refine z_if_ge (tgt := 27) dX1_number_20 (by decide) (by decide) (fun _ => ?_) (fun q => absurd q (by decide))
    refine g_iload_n dX1_number_27 rfl ?_
    refine z_iconst dX1_number_28 ?_
    refine z_isub dX1_number_29 ?_
    refine z_i2l dX1_number_30 (by omega) ?_
    refine g_aload_n dX1_number_31 rfl ?_
    refine z_getf fl_X1_19 dX1_number_32 m_d rfl ?_
    refine g_lload_n dX1_number_35 rfl ?_
    refine z_ldiv dX1_number_36 (by omega) (by omega) ?_
    refine z_minL lj_X1_39 dX1_number_37 ⟨(Nat.le_of_ble_eq_true rfl), (Nat.le_of_ble_eq_true rfl)⟩ (Nat.le_of_ble_eq_true rfl) (Nat.le_of_ble_eq_true rfl) (by omega) (by omega) ?_
    refine z_l2i dX1_number_40 (by omega) ?_
    exact g_ireturn dX1_number_41 rfl (Nat.le_of_ble_eq_true rfl) (Nat.le_of_ble_eq_true rfl) ⟨rfl, rfl, rfl⟩
  · refine z_if_ge (tgt := 27) dX1_number_20 (by decide) (by decide) (fun q => absurd q (by decide)) (fun _ => ?_)
    refine z_iconst dX1_number_23 ?_
    refine g_goto (tgt := 41) dX1_number_24 (by decide) ?_
    exact g_ireturn dX1_number_41 rfl (Nat.le_of_ble_eq_true rfl) (Nat.le_of_ble_eq_true rfl) ⟨rfl, rfl, by exfalso; omega⟩
theorem okD_x {d : ds} {n : Nat} {x : iv} (h : okD d n) (hx : okI x) (hn : x.1 ≤ dnum d x.2.2 ∧ dnum d x.2.2 < x.2.1) : 0 ≤ d.2.1 - d.2.2 / x.2.2 * x.1 ∧ d.2.1 - d.2.2 / x.2.2 * x.1 < ivr d.2.2 x := by
  obtain ⟨h1, h2, h3⟩ := h
  obtain ⟨q1, q2, q3, q4, q5, q6, q7⟩ := ivr_b h3 hx
  obtain ⟨a, b, t⟩ := x
  obtain ⟨x1, x2, x3, x4⟩ := hx
  simp only at *
  unfold dnum at hn
  have e1 : d.2.2 / t * (d.2.1 / (d.2.2 / t)) ≤ d.2.1 := Int.mul_ediv_self_le (by omega)
  have e2 : d.2.2 / t * a ≤ d.2.2 / t * (d.2.1 / (d.2.2 / t)) := Int.mul_le_mul_of_nonneg_left (by omega) (by omega)
  refine ⟨by omega, ?_⟩
  by_cases hb : b < t
  · rw [q6 hb]
    have e3 : d.2.1 < d.2.2 / t * (d.2.1 / (d.2.2 / t)) + d.2.2 / t := Int.lt_mul_ediv_self_add (by omega)
    have e4 : d.2.2 / t * (d.2.1 / (d.2.2 / t) + 1) ≤ d.2.2 / t * b := Int.mul_le_mul_of_nonneg_left (by omega) (by omega)
    rw [Int.mul_add, Int.mul_one] at e4
    have e5 : d.2.2 / t * (b - a) = d.2.2 / t * b - d.2.2 / t * a := Int.mul_sub _ _ _
    omega
  · rw [q7 (by omega)]; omega
theorem sh1_b {cs : List Int} {d : ds} (hb : okB cs) (h : 0 ≤ d.2.1 ∧ d.2.1 < d.2.2) (hr : 1 ≤ d.2.2 ∧ d.2.2 ≤ 16777216) : 0 ≤ (sh1 cs d).2.1 ∧ (sh1 cs d).2.1 < d.2.2 * 256 := by
  have := hb.get d.1
  unfold sh1
  dsimp only
  rw [Int.emod_eq_of_lt (by omega) (by omega)]
  omega
theorem dsf_b {cs : List Int} (hb : okB cs) : ∀ (n : Nat) {d : ds}, (0 ≤ d.2.1 ∧ d.2.1 < d.2.2) → (1 ≤ d.2.2 ∧ d.2.2 ≤ 4294967296) → (dsf cs n d).1 ≤ d.1 + n ∧ (0 ≤ (dsf cs n d).2.1 ∧ (dsf cs n d).2.1 < (dsf cs n d).2.2) ∧ (dsf cs n d).2.2 ≤ 4294967296
  | 0, d, h, hr => ⟨Nat.le_refl _, h, hr.2⟩
  | n + 1, d, h, hr => by
    rw [dsf]
    split
    · next hh =>
      have hs := sh1_b hb h ⟨hr.1, hh⟩
      have := dsf_b hb n (d := ((sh1 cs d).1, (sh1 cs d).2.1, d.2.2 * 256)) hs (by dsimp only; omega)
      have e : (sh1 cs d).1 = d.1 + 1 := rfl
      dsimp only at this
      rw [e] at this ⊢
      exact ⟨by omega, this.2⟩
    · exact ⟨by omega, h, hr.2⟩
theorem dsf_g {cs : List Int} {d : ds} (hr : 256 ≤ d.2.2) : 16777216 < (dsf cs 4 d).2.2 := by
  unfold dsf
  split
  · unfold dsf
    dsimp only
    split
    · unfold dsf
      dsimp only
      split
      · unfold dsf
        dsimp only
        split
        · dsimp only [dsf]; omega
        · dsimp only; omega
      · dsimp only; omega
    · dsimp only; omega
  · omega
theorem okD_div {cs : List Int} (hb : okB cs) {d : ds} {n : Nat} {x : iv} (h : okD d n) (hx : okI x) (hn : x.1 ≤ dnum d x.2.2 ∧ dnum d x.2.2 < x.2.1) : okD (div_ cs d x) (n + 4) := by
  have h2 := okD_x h hx hn
  obtain ⟨h1, -, h3⟩ := h
  obtain ⟨q1, q2, q3, q4, q5, -⟩ := ivr_b h3 hx
  have hg := dsf_g (cs := cs) (d := (d.1, d.2.1 - d.2.2 / x.2.2 * x.1, ivr d.2.2 x)) q4
  have hf := dsf_b hb 4 (d := (d.1, d.2.1 - d.2.2 / x.2.2 * x.1, ivr d.2.2 x)) h2 (by dsimp only; omega)
  dsimp only at hf
  exact ⟨by have := hf.1; unfold div_; omega, hf.2.1, hg, hf.2.2⟩
set_option maxHeartbeats 1000000 in
theorem De_interval {M : pM} {z de cd N n : Nat} {cs : List Int} {d : ds} {a b t : Int} (h : De M de cd d) (hc : Rw M cd N cs) (hb : okB cs) (hcd : cd + 2 ≤ de ∨ de < cd) (hk : okD d n) (hn : n ≤ 100000) (hx : okI (a, b, t)) (hnu : a ≤ dnum d t ∧ dnum d t < b) : CW I_X1_interval yX1_interval [.ref de, vI a, vI b, vI t] M z (fun M' r => r = none ∧ De M' de cd (div_ cs d (a, b, t)) ∧ Off M M' de (de + 1)) := by
  have m_d : M de = some (ob 1 [.ref cd, vI d.1, vL d.2.1, vL d.2.2]) := h
  have hdx := okD_x hk hx hnu
  obtain ⟨k1, k2, k3⟩ := id hk
  obtain ⟨x1, x2, x3, x4⟩ := id hx
  obtain ⟨q1, q2, q3, q4, q5, q6, q7⟩ := ivr_b k3 hx
  dsimp only at x1 x2 x3 x4 q1 q2 q3 q4 q5 q6 q7 hdx
  have fr : Off M M de (de + 1) := Off.rf
  refine C.intro (pl := [some (.ref de), some (vI a), some (vI b), some (vI t), none, none, none]) pn_X1 rfl (fun h => absurd h (by decide)) rfl (Nat.le_of_ble_eq_true rfl) rfl ?_
  have loop : ∀ (j : Nat) (e R : ds) (M1 : pM), j ≤ 4 → e.1 + j ≤ 200000 → (0 ≤ e.2.1 ∧ e.2.1 < e.2.2) → (1 ≤ e.2.2 ∧ e.2.2 ≤ 4294967296) → De M1 de cd e → Rw M1 cd N cs → Off M M1 de (de + 1) → R = dsf cs j e → ∀ K : Value, K.category = 2 → G I_X1_interval 0 0 (fun M' z' r' => z' = z ∧ r' = none ∧ De M' de cd R ∧ Off M M' de (de + 1)) 0 0 61 [some (.ref de), some (vI a), some (vI b), some (vI t), some K, none, some (vI (4 - (j : Int)))] [] M1 z := by
    intro j
    induction j with
    | zero =>
      intro e R M hj hn he hr h hc fr hR K hK
      subst hR
      refine g_iload dX1_interval_61 rfl ?_
      refine z_iconst dX1_interval_63 ?_
      refine z_icmp_ge (tgt := 100) dX1_interval_64 (by decide) (by omega) (by omega) (fun c64 => ?_) (fun c64 => absurd c64 (by omega))
      exact g_return dX1_interval_100 rfl (Nat.le_of_ble_eq_true rfl) (Nat.le_of_ble_eq_true rfl) ⟨rfl, rfl, h, fr⟩
    | succ j ih =>
      intro e R M hj hn he hr h hc fr hR K hK
      have m_d : M de = some (ob 1 [.ref cd, vI e.1, vL e.2.1, vL e.2.2]) := h
      subst hR
      rw [dsf]
      have e4 : (4 : Int) - ((j + 1 : Nat) : Int) + 1 = 4 - (j : Int) := by omega
      have ih2 := fun M2 h2 hc2 fr2 (hh : e.2.2 ≤ 16777216) => ih ((sh1 cs e).1, (sh1 cs e).2.1, e.2.2 * 256) _ M2 (by omega) (by show e.1 + 1 + j ≤ 200000; omega) (sh1_b hb he ⟨hr.1, hh⟩) (by dsimp only; omega) h2 hc2 fr2 rfl K hK
      refine g_iload dX1_interval_61 rfl ?_
      refine z_iconst dX1_interval_63 ?_
      refine z_icmp_ge (tgt := 100) dX1_interval_64 (by decide) (by omega) (by omega) (fun c64 => absurd c64 (by omega)) (fun c64 => ?_)
      refine g_aload_n dX1_interval_67 rfl ?_
      refine z_getf fl_X1_28 dX1_interval_68 m_d rfl ?_
      refine z_ldc2 (16777216) dX1_interval_71 kc_X1_45 rfl ?_
      refine z_lcmp dX1_interval_74 (by omega) (by omega) (fun c74 => ?_) (fun c74 => ?_) (fun c74 => ?_)
      · refine z_if_gt (tgt := 100) dX1_interval_75 (by decide) (by decide) (fun _ => ?_) (fun q => absurd q (by decide))
        exact g_return dX1_interval_100 rfl (Nat.le_of_ble_eq_true rfl) (Nat.le_of_ble_eq_true rfl) ⟨rfl, rfl, by rw [if_neg (by omega)]; exact h, fr⟩
      · refine z_if_gt (tgt := 100) dX1_interval_75 (by decide) (by decide) (fun q => absurd q (by decide)) (fun _ => ?_)
        refine g_aload_n dX1_interval_78 rfl ?_
        refine z_callVV dX1_interval_79 lm_X1_23 lk_X1_shift (De_shift m_d hc hb (by omega) (by omega) (by omega)) rfl rfl m_d rfl (mkRoom rfl rfl) (Nat.le_of_ble_eq_true rfl) (Nat.le_of_ble_eq_true rfl) (Nat.le_of_ble_eq_true rfl) (fun M r hp => ?_)
        obtain ⟨rfl, m_d, o1⟩ := hp
        have hc := hc.off o1 (by omega)
        have fr := fr.tr o1
        refine g_aload_n dX1_interval_82 rfl ?_
        refine g_aload_n dX1_interval_83 rfl ?_
        refine z_getf fl_X1_28 dX1_interval_84 m_d rfl ?_
        refine z_ldc2 (256) dX1_interval_87 kc_X1_37 rfl ?_
        refine z_lmul dX1_interval_90 ?_
        refine z_putf fl_X1_28 dX1_interval_91 m_d rfl (Nat.le_of_ble_eq_true rfl) rfl rfl (fun M m_d o => ?_)
        have fr := fr.one o (by omega)
        have o1 : Off _ M de (de + 1) := fun x hx => o x (by omega)
        have hc := hc.off o1 (by omega)
        refine z_iinc dX1_interval_94 rfl (Nat.le_of_ble_eq_true rfl) ?_
        refine g_goto (tgt := 61) dX1_interval_97 (by decide) ?_
        rw [if_pos (by omega), e4]
        exact ih2 M m_d hc fr (by omega)
      · refine z_if_gt (tgt := 100) dX1_interval_75 (by decide) (by decide) (fun q => absurd q (by decide)) (fun _ => ?_)
        refine g_aload_n dX1_interval_78 rfl ?_
        refine z_callVV dX1_interval_79 lm_X1_23 lk_X1_shift (De_shift m_d hc hb (by omega) (by omega) (by omega)) rfl rfl m_d rfl (mkRoom rfl rfl) (Nat.le_of_ble_eq_true rfl) (Nat.le_of_ble_eq_true rfl) (Nat.le_of_ble_eq_true rfl) (fun M r hp => ?_)
        obtain ⟨rfl, m_d, o1⟩ := hp
        have hc := hc.off o1 (by omega)
        have fr := fr.tr o1
        refine g_aload_n dX1_interval_82 rfl ?_
        refine g_aload_n dX1_interval_83 rfl ?_
        refine z_getf fl_X1_28 dX1_interval_84 m_d rfl ?_
        refine z_ldc2 (256) dX1_interval_87 kc_X1_37 rfl ?_
        refine z_lmul dX1_interval_90 ?_
        refine z_putf fl_X1_28 dX1_interval_91 m_d rfl (Nat.le_of_ble_eq_true rfl) rfl rfl (fun M m_d o => ?_)
        have fr := fr.one o (by omega)
        have o1 : Off _ M de (de + 1) := fun x hx => o x (by omega)
        have hc := hc.off o1 (by omega)
        refine z_iinc dX1_interval_94 rfl (Nat.le_of_ble_eq_true rfl) ?_
        refine g_goto (tgt := 61) dX1_interval_97 (by decide) ?_
        rw [if_pos (by omega), e4]
        exact ih2 M m_d hc fr (by omega)
  have cont : ∀ M1 : pM, De M1 de cd (d.1, d.2.1 - d.2.2 / t * a, ivr d.2.2 (a, b, t)) → Rw M1 cd N cs → Off M M1 de (de + 1) → ∀ K : Value, K.category = 2 → G I_X1_interval 0 0 (fun M' z' r' => z' = z ∧ r' = none ∧ De M' de cd (div_ cs d (a, b, t)) ∧ Off M M' de (de + 1)) 0 0 58 [some (.ref de), some (vI a), some (vI b), some (vI t), some K, none, none] [] M1 z := by
    intro M h hc fr K hK
    refine z_iconst dX1_interval_58 ?_
    refine g_istore dX1_interval_59 (Nat.le_of_ble_eq_true rfl) ?_
    exact loop 4 _ _ M (by omega) (by dsimp only; omega) hdx (by dsimp only; omega) h hc fr rfl K hK
  refine g_iload_n dX1_interval_0 rfl ?_
  refine z_iconst dX1_interval_1 ?_
  refine z_icmp_ge (tgt := 6) dX1_interval_2 (by decide) (by omega) (by omega) (fun c2 => ?_) (fun c2 => absurd c2 (by omega))
  refine g_aload_n dX1_interval_6 rfl ?_
  refine z_getf fl_X1_28 dX1_interval_7 m_d rfl ?_
  refine g_iload_n dX1_interval_10 rfl ?_
  refine z_i2l dX1_interval_11 (by omega) ?_
  refine z_ldiv dX1_interval_12 (by omega) (by omega) ?_
  refine g_lstore dX1_interval_13 (Nat.le_of_ble_eq_true rfl) ?_
  refine g_aload_n dX1_interval_15 rfl ?_
  refine g_dup dX1_interval_16 rfl ?_
  refine z_getf fl_X1_19 dX1_interval_17 m_d rfl ?_
  refine g_lload dX1_interval_20 rfl ?_
  refine g_iload_n dX1_interval_22 rfl ?_
  refine z_i2l dX1_interval_23 (by omega) ?_
  refine z_lmul dX1_interval_24 ?_
  refine z_lsub dX1_interval_25 ?_
  refine z_putf fl_X1_19 dX1_interval_26 m_d rfl (Nat.le_of_ble_eq_true rfl) rfl rfl (fun M m_d o => ?_)
  have fr := fr.one o (by omega)
  have o1 : Off _ M de (de + 1) := fun x hx => o x (by omega)
  have hc := hc.off o1 (by omega)
  refine g_aload_n dX1_interval_29 rfl ?_
  refine g_iload_n dX1_interval_30 rfl ?_
  refine g_iload_n dX1_interval_31 rfl ?_
  refine z_icmp_ge (tgt := 45) dX1_interval_32 (by decide) (by omega) (by omega) (fun c32 => ?_) (fun c32 => ?_)
  · refine g_aload_n dX1_interval_45 rfl ?_
    refine z_getf fl_X1_28 dX1_interval_46 m_d rfl ?_
    refine g_lload dX1_interval_49 rfl ?_
    refine g_iload_n dX1_interval_51 rfl ?_
    refine z_i2l dX1_interval_52 (by omega) ?_
    refine z_lmul dX1_interval_53 ?_
    refine z_lsub dX1_interval_54 ?_
    refine z_putf fl_X1_28 dX1_interval_55 m_d rfl (Nat.le_of_ble_eq_true rfl) rfl rfl (fun M m_d o => ?_)
    have fr := fr.one o (by omega)
    have o1 : Off _ M de (de + 1) := fun x hx => o x (by omega)
    have hc := hc.off o1 (by omega)
    have h2 : De M de cd (d.1, d.2.1 - d.2.2 / t * a, ivr d.2.2 (a, b, t)) := by unfold De; dsimp only; first | (rw [q6 c32]; exact m_d) | (rw [q7 c32]; exact m_d)
    exact cont M h2 hc fr _ rfl
  · refine g_lload dX1_interval_35 rfl ?_
    refine g_iload_n dX1_interval_37 rfl ?_
    refine g_iload_n dX1_interval_38 rfl ?_
    refine z_isub dX1_interval_39 ?_
    refine z_i2l dX1_interval_40 (by omega) ?_
    refine z_lmul dX1_interval_41 ?_
    refine g_goto (tgt := 55) dX1_interval_42 (by decide) ?_
    refine z_putf fl_X1_28 dX1_interval_55 m_d rfl (Nat.le_of_ble_eq_true rfl) rfl rfl (fun M m_d o => ?_)
    have fr := fr.one o (by omega)
    have o1 : Off _ M de (de + 1) := fun x hx => o x (by omega)
    have hc := hc.off o1 (by omega)
    have h2 : De M de cd (d.1, d.2.1 - d.2.2 / t * a, ivr d.2.2 (a, b, t)) := by unfold De; dsimp only; first | (rw [q6 c32]; exact m_d) | (rw [q7 c32]; exact m_d)
    exact cont M h2 hc fr _ rfl
