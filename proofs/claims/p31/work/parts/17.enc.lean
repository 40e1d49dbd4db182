/-! the class Encoder -/
abbrev es : Type := Int × Int × List Int × Int
def okB (xs : List Int) : Prop := ∀ x ∈ xs, 0 ≤ x ∧ x < 256
theorem okB.get {xs : List Int} (h : okB xs) (i : Nat) : 0 ≤ xs.getD i 0 ∧ xs.getD i 0 < 256 := by
  by_cases hi : i < xs.length
  · rw [List.getD_eq_getElem?_getD, List.getElem?_eq_getElem hi]; exact h _ (List.getElem_mem hi)
  · rw [List.getD_eq_getElem?_getD, List.getElem?_eq_none (by omega)]; simp
theorem okB.set {xs : List Int} (h : okB xs) {i : Nat} {v : Int} (hv : 0 ≤ v ∧ v < 256) : okB (xs.set i v) := fun x hx => by
  rcases List.mem_or_eq_of_mem_set hx with hx | rfl
  · exact h x hx
  · exact hv
theorem okB.snoc {xs : List Int} (h : okB xs) {v : Int} (hv : 0 ≤ v ∧ v < 256) : okB (xs ++ [v]) := fun x hx => by
  rcases List.mem_append.mp hx with hx | hx
  · exact h x hx
  · rw [List.mem_singleton] at hx; subst hx; exact hv
def cryL (ys : List Int) (c : Int) : Nat → List Int × Int
  | 0 => (ys, c)
  | n + 1 => if ys.getD n 0 = 255 then cryL (ys.set n 0) (c + 1) n else (ys.set n (ys.getD n 0 + 1), c + 1)
def cry (ys : List Int) : List Int × Int := cryL ys 0 ys.length
theorem cryL_ok : ∀ (n : Nat) (ys : List Int) (c : Int), okB ys → okB (cryL ys c n).1 ∧ (cryL ys c n).1.length = ys.length ∧ c ≤ (cryL ys c n).2 ∧ (cryL ys c n).2 ≤ c + n
  | 0, ys, c, h => ⟨h, rfl, by simp [cryL], by simp [cryL]⟩
  | n + 1, ys, c, h => by
    rw [cryL]
    have hb := h.get n
    split
    · next he =>
      have h2 := cryL_ok n (ys.set n 0) (c + 1) (h.set (by omega))
      rw [List.length_set] at h2
      exact ⟨h2.1, h2.2.1, by omega, by omega⟩
    · next he => exact ⟨h.set (by omega), by rw [List.length_set], by show c ≤ c + 1; omega, by show c + 1 ≤ c + ((n + 1 : Nat) : Int); omega⟩
def En (M : pM) (en : Nat) (low range : Int) (out : List Int) (lng : Int) : Prop := M en = some (ob 2 [vL low, vL range, .ref (en + 1), vI lng]) ∧ Rw M (en + 1) 4028 out
theorem En.off {M M' : pM} {en lo hi : Nat} {low range : Int} {out : List Int} {lng : Int} (h : En M en low range out lng) (ho : Off M M' lo hi) (hd : en + 3 ≤ lo ∨ hi ≤ en) : En M' en low range out lng := ⟨(ho _ (by omega)).trans h.1, h.2.off ho (by omega)⟩
set_option maxHeartbeats 1000000 in
theorem En_begin {M : pM} {z en : Nat} {low range lng : Int} {out : List Int} (h : En M en low range out lng) : CW I_X2_begin yX2_begin [.ref en] M z (fun M' r => r = none ∧ En M' en 0 4294967296 [] 0 ∧ Off M M' en (en + 3)) := by
  obtain ⟨m_e, hw⟩ := id h
  have m_w := hw.obj
  have hwl := hw.len
  have fr : Off M M en (en + 3) := Off.rf
  refine C.intro (pl := [some (.ref en)]) pn_X2 rfl (fun h => absurd h (by decide)) rfl (Nat.le_of_ble_eq_true rfl) rfl ?_
  refine g_aload_n dX2_begin_0 rfl ?_
  refine z_lconst (a := 0) dX2_begin_1 rfl ?_
  refine z_putf fl_X2_20 dX2_begin_2 m_e rfl (Nat.le_of_ble_eq_true rfl) rfl rfl (fun M m_e o => ?_)
  have fr := fr.one o (by omega)
  have o1 : Off _ M en (en + 1) := fun x hx => o x (by omega)
  have hw := hw.off o1 (by omega)
  have m_w := hw.obj
  refine g_aload_n dX2_begin_5 rfl ?_
  refine z_ldc2 (4294967296) dX2_begin_6 kc_X2_24 rfl ?_
  refine z_putf fl_X2_26 dX2_begin_9 m_e rfl (Nat.le_of_ble_eq_true rfl) rfl rfl (fun M m_e o => ?_)
  have fr := fr.one o (by omega)
  have o1 : Off _ M en (en + 1) := fun x hx => o x (by omega)
  have hw := hw.off o1 (by omega)
  have m_w := hw.obj
  refine g_aload_n dX2_begin_12 rfl ?_
  refine z_getf fl_X2_14 dX2_begin_13 m_e rfl ?_
  refine z_callVV dX2_begin_16 lm_X2_29 lk_X6_clear (Row_clear hw) rfl rfl hw.obj rfl (mkRoom rfl rfl) (Nat.le_of_ble_eq_true rfl) (Nat.le_of_ble_eq_true rfl) (Nat.le_of_ble_eq_true rfl) (fun M r hp => ?_)
  obtain ⟨rfl, hw, o1⟩ := hp
  have m_e := (o1 _ (by omega)).trans m_e
  have m_w := hw.obj
  have fr := fr.tr (o1.wd (by omega) (by omega))
  refine g_aload_n dX2_begin_19 rfl ?_
  refine z_iconst dX2_begin_20 ?_
  refine z_putf fl_X2_32 dX2_begin_21 m_e rfl (Nat.le_of_ble_eq_true rfl) rfl rfl (fun M m_e o => ?_)
  have fr := fr.one o (by omega)
  have o1 : Off _ M en (en + 1) := fun x hx => o x (by omega)
  have hw := hw.off o1 (by omega)
  have m_w := hw.obj
  exact g_return dX2_begin_24 rfl (Nat.le_of_ble_eq_true rfl) (Nat.le_of_ble_eq_true rfl) ⟨rfl, rfl, ⟨m_e, hw⟩, fr⟩
set_option maxHeartbeats 1000000 in
theorem En_carry {M : pM} {z en : Nat} {low range lng : Int} {out : List Int} (h : En M en low range out lng) (hb : okB out) (hg : 0 ≤ lng ∧ lng ≤ 4028) : CW I_X2_carry yX2_carry [.ref en] M z (fun M' r => r = none ∧ En M' en low range (cry out).1 (max lng (cry out).2) ∧ Off M M' en (en + 3)) := by
  obtain ⟨m_e, hw⟩ := id h
  have m_w := hw.obj
  have hwl := hw.len
  have fr : Off M M en (en + 3) := Off.rf
  refine C.intro (pl := [some (.ref en), none, none, none]) pn_X2 rfl (fun h => absurd h (by decide)) rfl (Nat.le_of_ble_eq_true rfl) rfl ?_
  have hcr := cryL_ok out.length out 0 hb
  have tail : ∀ (ys : List Int) (c : Int) (M1 : pM) (K1 K2 : Value), 0 ≤ c ∧ c ≤ 4028 → Off M M1 en (en + 3) → En M1 en low range ys lng → G I_X2_carry 0 0 (fun M' z' r' => z' = z ∧ r' = none ∧ En M' en low range ys (max lng c) ∧ Off M M' en (en + 3)) 0 0 77 [some (.ref en), some (vI c), some K1, some K2] [] M1 z := by
    intro ys c M K1 K2 hc fr h
    obtain ⟨m_e, hw⟩ := id h
    refine g_aload_n dX2_carry_77 rfl ?_
    refine g_aload_n dX2_carry_78 rfl ?_
    refine z_getf fl_X2_32 dX2_carry_79 m_e rfl ?_
    refine g_iload_n dX2_carry_82 rfl ?_
    refine z_max lj_X2_57 dX2_carry_83 ⟨(Nat.le_of_ble_eq_true rfl), (Nat.le_of_ble_eq_true rfl)⟩ (Nat.le_of_ble_eq_true rfl) (Nat.le_of_ble_eq_true rfl) (by omega) (by omega) ?_
    refine z_putf fl_X2_32 dX2_carry_86 m_e rfl (Nat.le_of_ble_eq_true rfl) rfl rfl (fun M m_e o => ?_)
    have fr := fr.one o (by omega)
    have o1 : Off _ M en (en + 1) := fun x hx => o x (by omega)
    have hw := hw.off o1 (by omega)
    exact g_return dX2_carry_89 rfl (Nat.le_of_ble_eq_true rfl) (Nat.le_of_ble_eq_true rfl) ⟨rfl, rfl, ⟨m_e, hw⟩, fr⟩
  have loop : ∀ (n : Nat) (ys : List Int) (c : Int) (M1 : pM), n ≤ ys.length → ys.length ≤ 4028 → okB ys → 0 ≤ c ∧ c + n ≤ 4028 → Off M M1 en (en + 3) → En M1 en low range ys lng → G I_X2_carry 0 0 (fun M' z' r' => z' = z ∧ r' = none ∧ En M' en low range (cryL ys c n).1 (max lng (cryL ys c n).2) ∧ Off M M' en (en + 3)) 0 0 14 [some (.ref en), some (vI c), some (vI 1), some (vI ((n : Int) - 1))] [] M1 z := by
    intro n
    induction n with
    | zero =>
      intro ys c M hn hl hb hc fr h
      refine g_iload_n dX2_carry_14 rfl ?_
      refine z_if_lt (tgt := 77) dX2_carry_15 (by decide) (by omega) (fun c15 => ?_) (fun c15 => absurd c15 (by omega))
      exact tail ys c M _ _ (by omega) fr h
    | succ n ih =>
      intro ys c M hn hl hb hc fr h
      obtain ⟨m_e, hw⟩ := id h
      have m_w := hw.obj
      have hbn := hb.get n
      have e0 : (((n + 1 : Nat) : Int) - 1) = (n : Int) := by omega
      rw [e0, cryL]
      by_cases he : ys.getD n 0 = 255
      · rw [if_pos he]
        have ih2 := fun M2 h1 h2 => ih (ys.set n 0) (c + 1) M2 (by rw [List.length_set]; omega) (by rw [List.length_set]; omega) (hb.set (by omega)) (by omega) h1 h2
        refine g_iload_n dX2_carry_14 rfl ?_
        refine z_if_lt (tgt := 77) dX2_carry_15 (by decide) (by omega) (fun c15 => absurd c15 (by omega)) (fun c15 => ?_)
        refine g_iload_n dX2_carry_18 rfl ?_
        refine z_if_eq (tgt := 77) dX2_carry_19 (by decide) (by omega) (fun c19 => absurd c19 (by omega)) (fun c19 => ?_)
        refine g_aload_n dX2_carry_22 rfl ?_
        refine z_getf fl_X2_14 dX2_carry_23 m_e rfl ?_
        refine g_iload_n dX2_carry_26 rfl ?_
        refine z_callVR dX2_carry_27 lm_X2_49 lk_X6_item (Row_item (j := n) hw (by omega)) rfl rfl hw.obj rfl (mkRoom rfl rfl) (Nat.le_of_ble_eq_true rfl) (Nat.le_of_ble_eq_true rfl) (Nat.le_of_ble_eq_true rfl) ?_
        refine z_sipush dX2_carry_30 (by decide +kernel) ?_
        refine z_icmp_ne (tgt := 40) dX2_carry_33 (by decide) (by omega) (by omega) (fun c33 => absurd c33 (by omega)) (fun c33 => ?_)
        refine z_iconst dX2_carry_36 ?_
        refine g_goto (tgt := 41) dX2_carry_37 (by decide) ?_
        refine g_istore_n dX2_carry_41 rfl (Nat.le_of_ble_eq_true rfl) ?_
        refine g_aload_n dX2_carry_42 rfl ?_
        refine z_getf fl_X2_14 dX2_carry_43 m_e rfl ?_
        refine g_iload_n dX2_carry_46 rfl ?_
        refine g_iload_n dX2_carry_47 rfl ?_
        refine z_if_eq (tgt := 55) dX2_carry_48 (by decide) (by omega) (fun c48 => absurd c48 (by omega)) (fun c48 => ?_)
        refine z_iconst dX2_carry_51 ?_
        refine g_goto (tgt := 65) dX2_carry_52 (by decide) ?_
        refine z_callVV dX2_carry_65 lm_X2_53 lk_X6_put (Row_put (j := n) hw (by omega)) rfl rfl hw.obj rfl (mkRoom rfl rfl) (Nat.le_of_ble_eq_true rfl) (Nat.le_of_ble_eq_true rfl) (Nat.le_of_ble_eq_true rfl) (fun M r hp => ?_)
        obtain ⟨rfl, hw, o1⟩ := hp
        have m_e := (o1 _ (by omega)).trans m_e
        have m_w := hw.obj
        have fr := fr.tr (o1.wd (by omega) (by omega))
        refine z_iinc dX2_carry_68 rfl (Nat.le_of_ble_eq_true rfl) ?_
        refine z_iinc dX2_carry_71 rfl (Nat.le_of_ble_eq_true rfl) ?_
        refine g_goto (tgt := 14) dX2_carry_74 (by decide) ?_
        exact ih2 M fr ⟨m_e, hw⟩
      · rw [if_neg he]
        refine g_iload_n dX2_carry_14 rfl ?_
        refine z_if_lt (tgt := 77) dX2_carry_15 (by decide) (by omega) (fun c15 => absurd c15 (by omega)) (fun c15 => ?_)
        refine g_iload_n dX2_carry_18 rfl ?_
        refine z_if_eq (tgt := 77) dX2_carry_19 (by decide) (by omega) (fun c19 => absurd c19 (by omega)) (fun c19 => ?_)
        refine g_aload_n dX2_carry_22 rfl ?_
        refine z_getf fl_X2_14 dX2_carry_23 m_e rfl ?_
        refine g_iload_n dX2_carry_26 rfl ?_
        refine z_callVR dX2_carry_27 lm_X2_49 lk_X6_item (Row_item (j := n) hw (by omega)) rfl rfl hw.obj rfl (mkRoom rfl rfl) (Nat.le_of_ble_eq_true rfl) (Nat.le_of_ble_eq_true rfl) (Nat.le_of_ble_eq_true rfl) ?_
        refine z_sipush dX2_carry_30 (by decide +kernel) ?_
        refine z_icmp_ne (tgt := 40) dX2_carry_33 (by decide) (by omega) (by omega) (fun c33 => ?_) (fun c33 => absurd c33 (by omega))
        refine z_iconst dX2_carry_40 ?_
        refine g_istore_n dX2_carry_41 rfl (Nat.le_of_ble_eq_true rfl) ?_
        refine g_aload_n dX2_carry_42 rfl ?_
        refine z_getf fl_X2_14 dX2_carry_43 m_e rfl ?_
        refine g_iload_n dX2_carry_46 rfl ?_
        refine g_iload_n dX2_carry_47 rfl ?_
        refine z_if_eq (tgt := 55) dX2_carry_48 (by decide) (by omega) (fun c48 => ?_) (fun c48 => absurd c48 (by omega))
        refine g_aload_n dX2_carry_55 rfl ?_
        refine z_getf fl_X2_14 dX2_carry_56 m_e rfl ?_
        refine g_iload_n dX2_carry_59 rfl ?_
        refine z_callVR dX2_carry_60 lm_X2_49 lk_X6_item (Row_item (j := n) hw (by omega)) rfl rfl hw.obj rfl (mkRoom rfl rfl) (Nat.le_of_ble_eq_true rfl) (Nat.le_of_ble_eq_true rfl) (Nat.le_of_ble_eq_true rfl) ?_
        refine z_iconst dX2_carry_63 ?_
        refine z_iadd dX2_carry_64 ?_
        refine z_callVV dX2_carry_65 lm_X2_53 lk_X6_put (Row_put (j := n) hw (by omega)) rfl rfl hw.obj rfl (mkRoom rfl rfl) (Nat.le_of_ble_eq_true rfl) (Nat.le_of_ble_eq_true rfl) (Nat.le_of_ble_eq_true rfl) (fun M r hp => ?_)
        obtain ⟨rfl, hw, o1⟩ := hp
        have m_e := (o1 _ (by omega)).trans m_e
        have m_w := hw.obj
        have fr := fr.tr (o1.wd (by omega) (by omega))
        refine z_iinc dX2_carry_68 rfl (Nat.le_of_ble_eq_true rfl) ?_
        refine z_iinc dX2_carry_71 rfl (Nat.le_of_ble_eq_true rfl) ?_
        refine g_goto (tgt := 14) dX2_carry_74 (by decide) ?_
        by_cases hn0 : n = 0
        · subst hn0
          refine g_iload_n dX2_carry_14 rfl ?_
          refine z_if_lt (tgt := 77) dX2_carry_15 (by decide) (by omega) (fun c15 => ?_) (fun c15 => absurd c15 (by omega))
          exact tail _ _ M _ _ (by omega) fr ⟨m_e, hw⟩
        · refine g_iload_n dX2_carry_14 rfl ?_
          refine z_if_lt (tgt := 77) dX2_carry_15 (by decide) (by omega) (fun c15 => absurd c15 (by omega)) (fun c15 => ?_)
          refine g_iload_n dX2_carry_18 rfl ?_
          refine z_if_eq (tgt := 77) dX2_carry_19 (by decide) (by omega) (fun c19 => ?_) (fun c19 => absurd c19 (by omega))
          exact tail _ _ M _ _ (by omega) fr ⟨m_e, hw⟩
  refine z_iconst dX2_carry_0 ?_
  refine g_istore_n dX2_carry_1 rfl (Nat.le_of_ble_eq_true rfl) ?_
  refine z_iconst dX2_carry_2 ?_
  refine g_istore_n dX2_carry_3 rfl (Nat.le_of_ble_eq_true rfl) ?_
  refine g_aload_n dX2_carry_4 rfl ?_
  refine z_getf fl_X2_14 dX2_carry_5 m_e rfl ?_
  refine z_getf fl_X2_46 dX2_carry_8 m_w rfl ?_
  refine z_iconst dX2_carry_11 ?_
  refine z_isub dX2_carry_12 ?_
  refine g_istore_n dX2_carry_13 rfl (Nat.le_of_ble_eq_true rfl) ?_
  exact loop out.length out 0 M (Nat.le_refl _) (by omega) hb (by omega) fr h
def lm (low : Int) (z : Nat) : Int := (low + 2 ^ (8 * z) - 1) / 2 ^ (8 * z) * 2 ^ (8 * z)
theorem lm_b {low : Int} (z : Nat) (h : 0 ≤ low ∧ low < 4294967296) (hz : z ≤ 4) : low ≤ lm low z ∧ lm low z < low + 2 ^ (8 * z) ∧ lm low z ≤ 4294967296 ∧ (1 : Int) ≤ 2 ^ (8 * z) ∧ (2 : Int) ^ (8 * z) ≤ 4294967296 := by
  unfold lm
  match z, hz with
  | 0, _ => simp only [Nat.mul_zero, Int.pow_zero]; omega
  | 1, _ => simp only [Nat.mul_one, show (2 : Int) ^ 8 = 256 from rfl]; omega
  | 2, _ => simp only [show 8 * 2 = 16 from rfl, show (2 : Int) ^ 16 = 65536 from rfl]; omega
  | 3, _ => simp only [show 8 * 3 = 24 from rfl, show (2 : Int) ^ 24 = 16777216 from rfl]; omega
  | 4, _ => simp only [show 8 * 4 = 32 from rfl, show (2 : Int) ^ 32 = 4294967296 from rfl]; omega
set_option maxHeartbeats 1000000 in
theorem En_lm {M : pM} {z en k : Nat} {low range lng : Int} {out : List Int} (h : En M en low range out lng) (hl : 0 ≤ low ∧ low < 4294967296) (hk : k ≤ 4) : CR I_X2_leastMultiple yX2_leastMultiple [.ref en, vI (k : Int)] M z (some (vL (lm low k))) := by
  obtain ⟨m_e, hw⟩ := id h
  have hb := lm_b k hl hk
  have e8 : (8 : Int) * (k : Int) = ((8 * k : Nat) : Int) := by omega
  refine C.intro (pl := [some (.ref en), some (vI (k : Int)), none, none]) pn_X2 rfl (fun h => absurd h (by decide)) rfl (Nat.le_of_ble_eq_true rfl) rfl ?_
  refine z_lconst (a := 1) dX2_leastMultiple_0 rfl ?_
  refine z_bipush dX2_leastMultiple_1 (by decide +kernel) ?_
  refine g_iload_n dX2_leastMultiple_3 rfl ?_
  refine z_imul dX2_leastMultiple_4 ?_
  refine g_lshl dX2_leastMultiple_5 ?_
  refine G.top (v' := vL (2 ^ (8 * k))) (by rw [e8, lZ_shl 1 (by omega), Int.one_mul]) ?_
  refine g_lstore_n dX2_leastMultiple_6 rfl (Nat.le_of_ble_eq_true rfl) ?_
  refine g_aload_n dX2_leastMultiple_7 rfl ?_
  refine z_getf fl_X2_20 dX2_leastMultiple_8 m_e rfl ?_
  refine g_lload_n dX2_leastMultiple_11 rfl ?_
  refine z_ladd dX2_leastMultiple_12 ?_
  refine z_lconst (a := 1) dX2_leastMultiple_13 rfl ?_
  refine z_lsub dX2_leastMultiple_14 ?_
  refine g_lload_n dX2_leastMultiple_15 rfl ?_
  refine z_lneg dX2_leastMultiple_16 ?_
  refine g_land dX2_leastMultiple_17 ?_
  refine G.top (v' := vL (lm low k)) (by rw [lZ_mult (by omega) (by omega)]; rfl) ?_
  exact g_lreturn dX2_leastMultiple_18 rfl (Nat.le_of_ble_eq_true rfl) (Nat.le_of_ble_eq_true rfl) ⟨rfl, rfl, rfl⟩
def shf : Nat → Int → Int → List Int → Int × Int × List Int
  | 0, low, range, out => (low, range, out)
  | n + 1, low, range, out => if range ≤ 16777216 then shf n (low % 16777216 * 256) (range * 256) (out ++ [low / 16777216]) else (low, range, out)
def ivr (range : Int) (x : iv) : Int := if x.2.1 < x.2.2 then range / x.2.2 * (x.2.1 - x.1) else range - range / x.2.2 * x.1
/-- an interval is coded -/
def eiv (e : es) (x : iv) : es :=
  let low := e.1 + e.2.1 / x.2.2 * x.1
  let w : Int × List Int × Int := if 4294967296 ≤ low then (low - 4294967296, (cry e.2.2.1).1, max e.2.2.2 (cry e.2.2.1).2) else (low, e.2.2.1, e.2.2.2)
  let r := shf 4 w.1 (ivr e.2.1 x) w.2.1
  (r.1, r.2.1, r.2.2, w.2.2)
def okI (x : iv) : Prop := 0 ≤ x.1 ∧ x.1 < x.2.1 ∧ x.2.1 ≤ x.2.2 ∧ x.2.2 ≤ 65536
theorem ivr_b {range : Int} {x : iv} (hr : 16777216 < range ∧ range ≤ 4294967296) (hx : okI x) : 256 ≤ range / x.2.2 ∧ range / x.2.2 ≤ 4294967296 ∧ 0 ≤ range / x.2.2 * x.1 ∧ 256 ≤ ivr range x ∧ range / x.2.2 * x.1 + ivr range x ≤ range ∧ (x.2.1 < x.2.2 → ivr range x = range / x.2.2 * (x.2.1 - x.1)) ∧ (x.2.2 ≤ x.2.1 → ivr range x = range - range / x.2.2 * x.1) := by
  obtain ⟨h1, h2, h3, h4⟩ := hx
  obtain ⟨a, b, t⟩ := x
  simp only at h1 h2 h3 h4
  have hq : 256 ≤ range / t := by
    rw [Int.le_ediv_iff_mul_le (by omega)]
    omega
  have hq2 : range / t ≤ range := Int.ediv_le_self _ (by omega)
  have hqt : range / t * t ≤ range := Int.ediv_mul_le _ (by omega)
  have hqa : 0 ≤ range / t * a := Int.mul_nonneg (by omega) h1
  have hqba : range / t * (b - a) + range / t * a = range / t * b := by rw [← Int.mul_add]; congr 1; omega
  have hqb : range / t * b ≤ range / t * t := Int.mul_le_mul_of_nonneg_left h3 (by omega)
  have hqg : range / t * 1 ≤ range / t * (b - a) := Int.mul_le_mul_of_nonneg_left (by omega) (by omega)
  unfold ivr
  simp only
  refine ⟨hq, by omega, hqa, ?_, ?_, fun h => by rw [if_pos h], fun h => by rw [if_neg (by omega)]⟩
  · split <;> omega
  · split <;> omega
theorem shf_b : ∀ (n : Nat) {low range : Int} {out : List Int}, 0 ≤ low ∧ low < 4294967296 → 1 ≤ range ∧ range ≤ 4294967296 → okB out → (0 ≤ (shf n low range out).1 ∧ (shf n low range out).1 < 4294967296) ∧ (1 ≤ (shf n low range out).2.1 ∧ (shf n low range out).2.1 ≤ 4294967296) ∧ okB (shf n low range out).2.2 ∧ out.length ≤ (shf n low range out).2.2.length ∧ (shf n low range out).2.2.length ≤ out.length + n
  | 0, low, range, out, hl, hr, hb => ⟨hl, hr, hb, Nat.le_refl _, Nat.le_refl _⟩
  | n + 1, low, range, out, hl, hr, hb => by
    rw [shf]
    split
    · next h =>
      have := shf_b n (low := low % 16777216 * 256) (range := range * 256) (out := out ++ [low / 16777216]) (by omega) (by omega) (hb.snoc (by omega))
      rw [List.length_append, List.length_singleton] at this
      exact ⟨this.1, this.2.1, this.2.2.1, by omega, by omega⟩
    · exact ⟨hl, hr, hb, Nat.le_refl _, by show out.length ≤ out.length + (n + 1); omega⟩
/-- a range of 256 or more is great again behind at most three shifts -/
theorem shf_g {low range : Int} {out : List Int} (hr : 256 ≤ range) : 16777216 < (shf 4 low range out).2.1 := by
  unfold shf
  split
  · unfold shf
    split
    · unfold shf
      split
      · unfold shf
        split
        · dsimp only [shf]; omega
        · dsimp only; omega
      · dsimp only; omega
    · dsimp only; omega
  · dsimp only; omega
/-- what a coder's state keeps to: low, range, bytes, at most n of them, the longest carry -/
def okN (e : es) (n : Nat) : Prop := (0 ≤ e.1 ∧ e.1 < 4294967296) ∧ (16777216 < e.2.1 ∧ e.2.1 ≤ 4294967296) ∧ okB e.2.2.1 ∧ e.2.2.1.length ≤ n ∧ 0 ≤ e.2.2.2 ∧ e.2.2.2 ≤ n
theorem okN_eiv {e : es} {n : Nat} {x : iv} (h : okN e n) (hx : okI x) : okN (eiv e x) (n + 4) := by
  obtain ⟨low, range, out, lng⟩ := e
  obtain ⟨h1, h2, h3, h4, h5, h6⟩ := h
  simp only at h1 h2 h3 h4 h5 h6
  obtain ⟨q1, q2, q3, q4, q5, -⟩ := ivr_b h2 hx
  have hc := cryL_ok out.length out 0 h3
  unfold eiv
  simp only
  split
  · next hh =>
    have hb := shf_b 4 (low := low + range / x.2.2 * x.1 - 4294967296) (range := ivr range x) (out := (cry out).1) (by omega) (by omega) hc.1
    have hg := shf_g (low := low + range / x.2.2 * x.1 - 4294967296) (range := ivr range x) (out := (cry out).1) q4
    have hl : (cry out).1.length = out.length := hc.2.1
    have hm : 0 ≤ (cry out).2 ∧ (cry out).2 ≤ out.length := ⟨hc.2.2.1, by have := hc.2.2.2; unfold cry; omega⟩
    exact ⟨hb.1, ⟨hg, hb.2.1.2⟩, hb.2.2.1, by simp only; omega, by simp only; omega, by simp only; omega⟩
  · next hh =>
    have hb := shf_b 4 (low := low + range / x.2.2 * x.1) (range := ivr range x) (out := out) (by omega) (by omega) h3
    have hg := shf_g (low := low + range / x.2.2 * x.1) (range := ivr range x) (out := out) q4
    exact ⟨hb.1, ⟨hg, hb.2.1.2⟩, hb.2.2.1, by simp only; omega, h5, by simp only; omega⟩
set_option maxHeartbeats 1000000 in
theorem En_interval {M : pM} {z en n : Nat} {low range lng a b t : Int} {out : List Int} (h : En M en low range out lng) (hk : okN (low, range, out, lng) n) (hn : n ≤ 4024) (hx : okI (a, b, t)) : CW I_X2_interval yX2_interval [.ref en, vI a, vI b, vI t] M z (fun M' r => r = none ∧ En M' en (eiv (low, range, out, lng) (a, b, t)).1 (eiv (low, range, out, lng) (a, b, t)).2.1 (eiv (low, range, out, lng) (a, b, t)).2.2.1 (eiv (low, range, out, lng) (a, b, t)).2.2.2 ∧ Off M M' en (en + 3)) := by
  obtain ⟨m_e, hw⟩ := id h
  have m_w := hw.obj
  have hwl := hw.len
  have fr : Off M M en (en + 3) := Off.rf
  obtain ⟨k1, k2, k3, k4, k5, k6⟩ := id hk
  obtain ⟨x1, x2, x3, x4⟩ := id hx
  obtain ⟨q1, q2, q3, q4, q5, q6, q7⟩ := ivr_b k2 hx
  simp only at k1 k2 k3 k4 k5 k6 x1 x2 x3 x4 q1 q2 q3 q4 q5 q6 q7
  have hcr := cryL_ok out.length out 0 k3
  refine C.intro (pl := [some (.ref en), some (vI a), some (vI b), some (vI t), none, none, none]) pn_X2 rfl (fun h => absurd h (by decide)) rfl (Nat.le_of_ble_eq_true rfl) rfl ?_
  have loop : ∀ (j : Nat) (low range lng : Int) (out : List Int) (M1 : pM) (R : Int × Int × List Int), j ≤ 4 → 0 ≤ low ∧ low < 4294967296 → 1 ≤ range ∧ range ≤ 4294967296 → out.length + j ≤ 4028 → En M1 en low range out lng → Off M M1 en (en + 3) → R = shf j low range out → ∀ K : Value, K.category = 2 → G I_X2_interval 0 0 (fun M' z' r' => z' = z ∧ r' = none ∧ En M' en R.1 R.2.1 R.2.2 lng ∧ Off M M' en (en + 3)) 0 0 88 [some (.ref en), some (vI a), some (vI b), some (vI t), some K, none, some (vI (4 - (j : Int)))] [] M1 z := by
    intro j
    induction j with
    | zero =>
      intro low range lng out M R hj hlo hra ho h fr hR K hK
      subst hR
      refine g_iload dX2_interval_88 rfl ?_
      refine z_iconst dX2_interval_90 ?_
      refine z_icmp_ge (tgt := 155) dX2_interval_91 (by decide) (by omega) (by omega) (fun c91 => ?_) (fun c91 => absurd c91 (by omega))
      exact g_return dX2_interval_155 rfl (Nat.le_of_ble_eq_true rfl) (Nat.le_of_ble_eq_true rfl) ⟨rfl, rfl, h, fr⟩
    | succ j ih =>
      intro low range lng out M R hj hlo hra ho h fr hR K hK
      obtain ⟨m_e, hw⟩ := id h
      have m_w := hw.obj
      subst hR
      rw [shf]
      have e4 : (4 : Int) - ((j + 1 : Nat) : Int) + 1 = 4 - (j : Int) := by omega
      have ih2 := fun M2 (h2 : En M2 en (low % 16777216 * 256) (range * 256) (out ++ [low / 16777216]) lng) fr2 (hr : range ≤ 16777216) => ih (low % 16777216 * 256) (range * 256) lng (out ++ [low / 16777216]) M2 _ (by omega) (by omega) (by omega) (by simp; omega) h2 fr2 rfl K hK
      refine g_iload dX2_interval_88 rfl ?_
      refine z_iconst dX2_interval_90 ?_
      refine z_icmp_ge (tgt := 155) dX2_interval_91 (by decide) (by omega) (by omega) (fun c91 => absurd c91 (by omega)) (fun c91 => ?_)
      refine g_aload_n dX2_interval_94 rfl ?_
      refine z_getf fl_X2_26 dX2_interval_95 m_e rfl ?_
      refine z_ldc2 (16777216) dX2_interval_98 kc_X2_39 rfl ?_
      refine z_lcmp dX2_interval_101 (by omega) (by omega) (fun c101 => ?_) (fun c101 => ?_) (fun c101 => ?_)
      · refine z_if_gt (tgt := 155) dX2_interval_102 (by decide) (by decide) (fun _ => ?_) (fun q => absurd q (by decide))
        exact g_return dX2_interval_155 rfl (Nat.le_of_ble_eq_true rfl) (Nat.le_of_ble_eq_true rfl) ⟨rfl, rfl, by rw [if_neg (by omega)]; exact h, fr⟩
      · refine z_if_gt (tgt := 155) dX2_interval_102 (by decide) (by decide) (fun q => absurd q (by decide)) (fun _ => ?_)
        refine g_aload_n dX2_interval_105 rfl ?_
        refine z_getf fl_X2_14 dX2_interval_106 m_e rfl ?_
        refine g_aload_n dX2_interval_109 rfl ?_
        refine z_getf fl_X2_20 dX2_interval_110 m_e rfl ?_
        refine z_ldc2 (16777216) dX2_interval_113 kc_X2_39 rfl ?_
        refine z_ldiv dX2_interval_116 (by omega) (by omega) ?_
        refine z_l2i dX2_interval_117 (by omega) ?_
        refine z_callVV dX2_interval_118 lm_X2_41 lk_X6_push (Row_push hw) rfl rfl hw.obj rfl (mkRoom rfl rfl) (Nat.le_of_ble_eq_true rfl) (Nat.le_of_ble_eq_true rfl) (Nat.le_of_ble_eq_true rfl) (fun M r hp => ?_)
        obtain ⟨rfl, hw, o1⟩ := hp
        rw [if_pos (by omega)] at hw
        have m_e := (o1 _ (by omega)).trans m_e
        have fr := fr.tr (o1.wd (by omega) (by omega))
        refine g_aload_n dX2_interval_121 rfl ?_
        refine g_aload_n dX2_interval_122 rfl ?_
        refine z_getf fl_X2_20 dX2_interval_123 m_e rfl ?_
        refine z_ldc2 (16777216) dX2_interval_126 kc_X2_39 rfl ?_
        refine z_lrem dX2_interval_129 (by omega) (by omega) ?_
        refine z_ldc2 (256) dX2_interval_130 kc_X2_44 rfl ?_
        refine z_lmul dX2_interval_133 ?_
        refine z_putf fl_X2_20 dX2_interval_134 m_e rfl (Nat.le_of_ble_eq_true rfl) rfl rfl (fun M m_e o => ?_)
        have fr := fr.one o (by omega)
        have o1 : Off _ M en (en + 1) := fun x hx => o x (by omega)
        have hw := hw.off o1 (by omega)
        refine g_aload_n dX2_interval_137 rfl ?_
        refine g_aload_n dX2_interval_138 rfl ?_
        refine z_getf fl_X2_26 dX2_interval_139 m_e rfl ?_
        refine z_ldc2 (256) dX2_interval_142 kc_X2_44 rfl ?_
        refine z_lmul dX2_interval_145 ?_
        refine z_putf fl_X2_26 dX2_interval_146 m_e rfl (Nat.le_of_ble_eq_true rfl) rfl rfl (fun M m_e o => ?_)
        have fr := fr.one o (by omega)
        have o1 : Off _ M en (en + 1) := fun x hx => o x (by omega)
        have hw := hw.off o1 (by omega)
        refine z_iinc dX2_interval_149 rfl (Nat.le_of_ble_eq_true rfl) ?_
        refine g_goto (tgt := 88) dX2_interval_152 (by decide) ?_
        rw [if_pos (by omega), e4]
        exact ih2 M ⟨m_e, hw⟩ fr (by omega)
      · refine z_if_gt (tgt := 155) dX2_interval_102 (by decide) (by decide) (fun q => absurd q (by decide)) (fun _ => ?_)
        refine g_aload_n dX2_interval_105 rfl ?_
        refine z_getf fl_X2_14 dX2_interval_106 m_e rfl ?_
        refine g_aload_n dX2_interval_109 rfl ?_
        refine z_getf fl_X2_20 dX2_interval_110 m_e rfl ?_
        refine z_ldc2 (16777216) dX2_interval_113 kc_X2_39 rfl ?_
        refine z_ldiv dX2_interval_116 (by omega) (by omega) ?_
        refine z_l2i dX2_interval_117 (by omega) ?_
        refine z_callVV dX2_interval_118 lm_X2_41 lk_X6_push (Row_push hw) rfl rfl hw.obj rfl (mkRoom rfl rfl) (Nat.le_of_ble_eq_true rfl) (Nat.le_of_ble_eq_true rfl) (Nat.le_of_ble_eq_true rfl) (fun M r hp => ?_)
        obtain ⟨rfl, hw, o1⟩ := hp
        rw [if_pos (by omega)] at hw
        have m_e := (o1 _ (by omega)).trans m_e
        have fr := fr.tr (o1.wd (by omega) (by omega))
        refine g_aload_n dX2_interval_121 rfl ?_
        refine g_aload_n dX2_interval_122 rfl ?_
        refine z_getf fl_X2_20 dX2_interval_123 m_e rfl ?_
        refine z_ldc2 (16777216) dX2_interval_126 kc_X2_39 rfl ?_
        refine z_lrem dX2_interval_129 (by omega) (by omega) ?_
        refine z_ldc2 (256) dX2_interval_130 kc_X2_44 rfl ?_
        refine z_lmul dX2_interval_133 ?_
        refine z_putf fl_X2_20 dX2_interval_134 m_e rfl (Nat.le_of_ble_eq_true rfl) rfl rfl (fun M m_e o => ?_)
        have fr := fr.one o (by omega)
        have o1 : Off _ M en (en + 1) := fun x hx => o x (by omega)
        have hw := hw.off o1 (by omega)
        refine g_aload_n dX2_interval_137 rfl ?_
        refine g_aload_n dX2_interval_138 rfl ?_
        refine z_getf fl_X2_26 dX2_interval_139 m_e rfl ?_
        refine z_ldc2 (256) dX2_interval_142 kc_X2_44 rfl ?_
        refine z_lmul dX2_interval_145 ?_
        refine z_putf fl_X2_26 dX2_interval_146 m_e rfl (Nat.le_of_ble_eq_true rfl) rfl rfl (fun M m_e o => ?_)
        have fr := fr.one o (by omega)
        have o1 : Off _ M en (en + 1) := fun x hx => o x (by omega)
        have hw := hw.off o1 (by omega)
        refine z_iinc dX2_interval_149 rfl (Nat.le_of_ble_eq_true rfl) ?_
        refine g_goto (tgt := 88) dX2_interval_152 (by decide) ?_
        rw [if_pos (by omega), e4]
        exact ih2 M ⟨m_e, hw⟩ fr (by omega)
  have cont : ∀ M1 : pM, En M1 en (low + range / t * a) (ivr range (a, b, t)) out lng → Off M M1 en (en + 3) → ∀ K : Value, K.category = 2 → G I_X2_interval 0 0 (fun M' z' r' => z' = z ∧ r' = none ∧ En M' en (eiv (low, range, out, lng) (a, b, t)).1 (eiv (low, range, out, lng) (a, b, t)).2.1 (eiv (low, range, out, lng) (a, b, t)).2.2.1 (eiv (low, range, out, lng) (a, b, t)).2.2.2 ∧ Off M M' en (en + 3)) 0 0 58 [some (.ref en), some (vI a), some (vI b), some (vI t), some K, none, none] [] M1 z := by
    intro M h fr K hK
    obtain ⟨m_e, hw⟩ := id h
    have m_w := hw.obj
    unfold eiv
    simp only
    refine g_aload_n dX2_interval_58 rfl ?_
    refine z_getf fl_X2_20 dX2_interval_59 m_e rfl ?_
    refine z_ldc2 (4294967296) dX2_interval_62 kc_X2_24 rfl ?_
    refine z_lcmp dX2_interval_65 (by omega) (by omega) (fun c65 => ?_) (fun c65 => ?_) (fun c65 => ?_)
    · refine z_if_lt (tgt := 85) dX2_interval_66 (by decide) (by decide) (fun q => absurd q (by decide)) (fun _ => ?_)
      refine g_aload_n dX2_interval_69 rfl ?_
      refine g_dup dX2_interval_70 rfl ?_
      refine z_getf fl_X2_20 dX2_interval_71 m_e rfl ?_
      refine z_ldc2 (4294967296) dX2_interval_74 kc_X2_24 rfl ?_
      refine z_lsub dX2_interval_77 ?_
      refine z_putf fl_X2_20 dX2_interval_78 m_e rfl (Nat.le_of_ble_eq_true rfl) rfl rfl (fun M m_e o => ?_)
      have fr := fr.one o (by omega)
      have o1 : Off _ M en (en + 1) := fun x hx => o x (by omega)
      have hw := hw.off o1 (by omega)
      refine g_aload_n dX2_interval_81 rfl ?_
      refine z_callVV dX2_interval_82 lm_X2_36 lk_X2_carry (En_carry ⟨m_e, hw⟩ k3 (by omega)) rfl rfl m_e rfl (mkRoom rfl rfl) (Nat.le_of_ble_eq_true rfl) (Nat.le_of_ble_eq_true rfl) (Nat.le_of_ble_eq_true rfl) (fun M r hp => ?_)
      obtain ⟨rfl, h, o1⟩ := hp
      have fr := fr.tr o1
      refine z_iconst dX2_interval_85 ?_
      refine g_istore dX2_interval_86 (Nat.le_of_ble_eq_true rfl) ?_
      rw [if_pos (by omega)]
      exact loop 4 _ _ _ _ M _ (by omega) (by omega) (by omega) (by have : (cry out).1.length = out.length := hcr.2.1; omega) h fr rfl K hK
    · refine z_if_lt (tgt := 85) dX2_interval_66 (by decide) (by decide) (fun q => absurd q (by decide)) (fun _ => ?_)
      refine g_aload_n dX2_interval_69 rfl ?_
      refine g_dup dX2_interval_70 rfl ?_
      refine z_getf fl_X2_20 dX2_interval_71 m_e rfl ?_
      refine z_ldc2 (4294967296) dX2_interval_74 kc_X2_24 rfl ?_
      refine z_lsub dX2_interval_77 ?_
      refine z_putf fl_X2_20 dX2_interval_78 m_e rfl (Nat.le_of_ble_eq_true rfl) rfl rfl (fun M m_e o => ?_)
      have fr := fr.one o (by omega)
      have o1 : Off _ M en (en + 1) := fun x hx => o x (by omega)
      have hw := hw.off o1 (by omega)
      refine g_aload_n dX2_interval_81 rfl ?_
      refine z_callVV dX2_interval_82 lm_X2_36 lk_X2_carry (En_carry ⟨m_e, hw⟩ k3 (by omega)) rfl rfl m_e rfl (mkRoom rfl rfl) (Nat.le_of_ble_eq_true rfl) (Nat.le_of_ble_eq_true rfl) (Nat.le_of_ble_eq_true rfl) (fun M r hp => ?_)
      obtain ⟨rfl, h, o1⟩ := hp
      have fr := fr.tr o1
      refine z_iconst dX2_interval_85 ?_
      refine g_istore dX2_interval_86 (Nat.le_of_ble_eq_true rfl) ?_
      rw [if_pos (by omega)]
      exact loop 4 _ _ _ _ M _ (by omega) (by omega) (by omega) (by have : (cry out).1.length = out.length := hcr.2.1; omega) h fr rfl K hK
    · refine z_if_lt (tgt := 85) dX2_interval_66 (by decide) (by decide) (fun _ => ?_) (fun q => absurd q (by decide))
      refine z_iconst dX2_interval_85 ?_
      refine g_istore dX2_interval_86 (Nat.le_of_ble_eq_true rfl) ?_
      rw [if_neg (by omega)]
      exact loop 4 _ _ _ _ M _ (by omega) (by omega) (by omega) (by omega) h fr rfl K hK
  refine g_iload_n dX2_interval_0 rfl ?_
  refine z_iconst dX2_interval_1 ?_
  refine z_icmp_ge (tgt := 6) dX2_interval_2 (by decide) (by omega) (by omega) (fun c2 => ?_) (fun c2 => absurd c2 (by omega))
  refine g_aload_n dX2_interval_6 rfl ?_
  refine z_getf fl_X2_26 dX2_interval_7 m_e rfl ?_
  refine g_iload_n dX2_interval_10 rfl ?_
  refine z_i2l dX2_interval_11 (by omega) ?_
  refine z_ldiv dX2_interval_12 (by omega) (by omega) ?_
  refine g_lstore dX2_interval_13 (Nat.le_of_ble_eq_true rfl) ?_
  refine g_aload_n dX2_interval_15 rfl ?_
  refine g_dup dX2_interval_16 rfl ?_
  refine z_getf fl_X2_20 dX2_interval_17 m_e rfl ?_
  refine g_lload dX2_interval_20 rfl ?_
  refine g_iload_n dX2_interval_22 rfl ?_
  refine z_i2l dX2_interval_23 (by omega) ?_
  refine z_lmul dX2_interval_24 ?_
  refine z_ladd dX2_interval_25 ?_
  refine z_putf fl_X2_20 dX2_interval_26 m_e rfl (Nat.le_of_ble_eq_true rfl) rfl rfl (fun M m_e o => ?_)
  have fr := fr.one o (by omega)
  have o1 : Off _ M en (en + 1) := fun x hx => o x (by omega)
  have hw := hw.off o1 (by omega)
  refine g_aload_n dX2_interval_29 rfl ?_
  refine g_iload_n dX2_interval_30 rfl ?_
  refine g_iload_n dX2_interval_31 rfl ?_
  refine z_icmp_ge (tgt := 45) dX2_interval_32 (by decide) (by omega) (by omega) (fun c32 => ?_) (fun c32 => ?_)
  · refine g_aload_n dX2_interval_45 rfl ?_
    refine z_getf fl_X2_26 dX2_interval_46 m_e rfl ?_
    refine g_lload dX2_interval_49 rfl ?_
    refine g_iload_n dX2_interval_51 rfl ?_
    refine z_i2l dX2_interval_52 (by omega) ?_
    refine z_lmul dX2_interval_53 ?_
    refine z_lsub dX2_interval_54 ?_
    refine z_putf fl_X2_26 dX2_interval_55 m_e rfl (Nat.le_of_ble_eq_true rfl) rfl rfl (fun M m_e o => ?_)
    have fr := fr.one o (by omega)
    have o1 : Off _ M en (en + 1) := fun x hx => o x (by omega)
    have hw := hw.off o1 (by omega)
    have h2 : En M en (low + range / t * a) (ivr range (a, b, t)) out lng := ⟨by first | (rw [q6 c32]; exact m_e) | (rw [q7 c32]; exact m_e), hw⟩
    exact cont M h2 fr _ rfl
  · refine g_lload dX2_interval_35 rfl ?_
    refine g_iload_n dX2_interval_37 rfl ?_
    refine g_iload_n dX2_interval_38 rfl ?_
    refine z_isub dX2_interval_39 ?_
    refine z_i2l dX2_interval_40 (by omega) ?_
    refine z_lmul dX2_interval_41 ?_
    refine g_goto (tgt := 55) dX2_interval_42 (by decide) ?_
    refine z_putf fl_X2_26 dX2_interval_55 m_e rfl (Nat.le_of_ble_eq_true rfl) rfl rfl (fun M m_e o => ?_)
    have fr := fr.one o (by omega)
    have o1 : Off _ M en (en + 1) := fun x hx => o x (by omega)
    have hw := hw.off o1 (by omega)
    have h2 : En M en (low + range / t * a) (ivr range (a, b, t)) out lng := ⟨by first | (rw [q6 c32]; exact m_e) | (rw [q7 c32]; exact m_e), hw⟩
    exact cont M h2 fr _ rfl
