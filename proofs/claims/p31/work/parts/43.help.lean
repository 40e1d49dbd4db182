/-! the law's own calls: a letter, calls that fail, a text that is typed -/
theorem cmp_self (x : Int64) : lg_cmp x x = 0 := by
  unfold lg_cmp
  rw [if_neg (by simp), if_pos rfl]
theorem CK.as {I : MI} {y : MethodName} {c : Nat} {args : List Value} {M : pM} {z : Nat} {res : Int × kk} (h : CK I y c args M z res) {v : Int} {k' : kk} (e : res = (v, k')) : CW I y (.ref c :: args) M z (fun M' r => r = some (vI v) ∧ CC M' c k' ∧ Off M M' c (c + 131)) := by
  rw [e] at h
  exact h
theorem CC.facts {M : pM} {c : Nat} {k : kk} (h : CC M c k) : okG k.1 ∧ (sC k.1).length ≤ 400 ∧ (sA k.1).length ≤ 201 ∧ (sR k.1).length ≤ 200 ∧ k.2.2.length ≤ 200 ∧ okX k.2.2 ∧ k.2.1.length ≤ 4 := by
  obtain ⟨h1, h2, h3, h4, h5⟩ := h
  obtain ⟨-, n1, n2, n3, n4⟩ := h2
  obtain ⟨f, pi, -, -, -, -, g5, -⟩ := h4
  exact ⟨h3, n2.len.1, n3.len, n4.len.1, h5.2.1.1.len.1, h5.2.1.2, g5⟩
def upz (a m : Int) : Int := a % 2147483648 % m
theorem upz_rng {a m : Int} (hm : 0 < m) : 0 ≤ upz a m ∧ upz a m < m := ⟨Int.emod_nonneg _ (by omega), Int.emod_lt_of_pos _ hm⟩
theorem iZ_andM (a : Int) : iZ a &&& iZ 2147483647 = iZ (a % 2147483648) := by
  apply Int32.toBitVec_inj.mp
  rw [Int32.toBitVec_and, iZ_bv, iZ_bv, iZ_bv]
  apply BitVec.eq_of_toNat_eq
  rw [BitVec.toNat_and, BitVec.toNat_ofInt, BitVec.toNat_ofInt, BitVec.toNat_ofInt]
  have e : ((2147483647 : Int) % ((2 ^ 32 : Nat) : Int)).toNat = 2 ^ 31 - 1 := by decide
  rw [e, Nat.and_two_pow_sub_one_eq_mod]
  omega
theorem iZ_and7 (a : Int) : iZ a &&& iZ 7 = iZ (a % 8) := by
  apply Int32.toBitVec_inj.mp
  rw [Int32.toBitVec_and, iZ_bv, iZ_bv, iZ_bv]
  apply BitVec.eq_of_toNat_eq
  rw [BitVec.toNat_and, BitVec.toNat_ofInt, BitVec.toNat_ofInt, BitVec.toNat_ofInt]
  have e : ((7 : Int) % ((2 ^ 32 : Nat) : Int)).toNat = 2 ^ 3 - 1 := by decide
  rw [e, Nat.and_two_pow_sub_one_eq_mod]
  omega
theorem iZ_and3 (a : Int) : iZ a &&& iZ 3 = iZ (a % 4) := by
  apply Int32.toBitVec_inj.mp
  rw [Int32.toBitVec_and, iZ_bv, iZ_bv, iZ_bv]
  apply BitVec.eq_of_toNat_eq
  rw [BitVec.toNat_and, BitVec.toNat_ofInt, BitVec.toNat_ofInt, BitVec.toNat_ofInt]
  have e : ((3 : Int) % ((2 ^ 32 : Nat) : Int)).toNat = 2 ^ 2 - 1 := by decide
  rw [e, Nat.and_two_pow_sub_one_eq_mod]
  omega
theorem iZ_and1 (a : Int) : iZ a &&& iZ 1 = iZ (a % 2) := by
  apply Int32.toBitVec_inj.mp
  rw [Int32.toBitVec_and, iZ_bv, iZ_bv, iZ_bv]
  apply BitVec.eq_of_toNat_eq
  rw [BitVec.toNat_and, BitVec.toNat_ofInt, BitVec.toNat_ofInt, BitVec.toNat_ofInt]
  have e : ((1 : Int) % ((2 ^ 32 : Nat) : Int)).toNat = 2 ^ 1 - 1 := by decide
  rw [e, Nat.and_two_pow_sub_one_eq_mod]
  omega
def t16 (q : Int) : Int := (iZ q &&& iZ 16).toInt
theorem t16_rng (q : Int) : -2147483648 ≤ t16 q ∧ t16 q < 2147483648 := iZ_rng _
/-- the character at place j of a text by a number q, of so many letters -/
def chz (q l : Int) (j : Nat) : Int := if (j : Int) % 8 = 7 ∧ t16 q ≠ 0 then 32 else 97 + upz (q / 2 ^ (3 * (j % 8))) l
theorem chz_rng {q l : Int} (hl : 1 ≤ l ∧ l ≤ 8) (j : Nat) : 32 ≤ chz q l j ∧ chz q l j ≤ 104 := by
  have := upz_rng (a := q / 2 ^ (3 * (j % 8))) (m := l) (by omega)
  unfold chz
  split <;> omega
def txt (q l : Int) : Nat → List Int
  | 0 => []
  | j + 1 => txt q l j ++ [chz q l j - 32]
theorem txt_len (q l : Int) : ∀ n : Nat, (txt q l n).length = n
  | 0 => rfl
  | n + 1 => by rw [txt, List.length_append, txt_len q l n]; rfl
theorem txt_get (q l : Int) : ∀ (n j : Nat), j < n → (txt q l n).getD j 0 = chz q l j - 32
  | 0, _, h => absurd h (Nat.not_lt_zero _)
  | n + 1, j, h => by
    have hl := txt_len q l n
    rw [txt, List.getD_eq_getElem?_getD]
    by_cases q1 : j < n
    · rw [List.getElem?_append_left (by omega), ← List.getD_eq_getElem?_getD]
      exact txt_get q l n j q1
    · have : j = n := by omega
      subst this
      rw [List.getElem?_append_right (by omega), hl, Nat.sub_self]
      rfl
theorem txt_ok {q l : Int} (hl : 1 ≤ l ∧ l ≤ 8) : ∀ n : Nat, okX (txt q l n)
  | 0 => fun x hx => by cases hx
  | n + 1 => (txt_ok hl n).snoc (by have := chz_rng (q := q) hl n; omega)
theorem div_rng {q : Int} (hq : -2147483648 ≤ q ∧ q < 2147483648) (s : Nat) : -2147483648 ≤ q / 2 ^ s ∧ q / 2 ^ s < 2147483648 := by
  have hp : (0 : Int) < 2 ^ s := Int.pow_pos (by decide)
  by_cases h : 0 ≤ q
  · have := Int.ediv_nonneg h (Int.le_of_lt hp)
    have := Int.ediv_le_self (2 ^ s) h
    omega
  · have := Int.ediv_neg_of_neg_of_pos (show q < 0 by omega) hp
    have h3 : q ≤ q / 2 ^ s := by
      rw [Int.le_ediv_iff_mul_le hp]
      have : q * 2 ^ s ≤ q * 1 := Int.mul_le_mul_of_nonpos_left (by omega) (by omega)
      omega
    omega
set_option maxHeartbeats 1000000 in
theorem x_up {M : pM} {z : Nat} {a m : Int} (ha : -2147483648 ≤ a ∧ a < 2147483648) (hm : 0 < m ∧ m < 2147483648) : CR I_L_up yL_up [vI a, vI m] M z (some (vI (upz a m))) := by
  refine C.intro (pl := [some (vI a), some (vI m)]) pn_L rfl (fun h => absurd h (by decide)) rfl (Nat.le_of_ble_eq_true rfl) rfl ?_
  refine g_iload_n dL_up_0 rfl ?_
  refine z_ldc (2147483647) dL_up_1 kc_L_8 rfl ?_
  refine g_iand dL_up_3 ?_
  refine G.top (v' := vI (a % 2147483648)) (by rw [iZ_andM]) ?_
  refine g_iload_n dL_up_4 rfl ?_
  refine z_irem dL_up_5 (by omega) (by omega) ?_
  exact g_ireturn dL_up_6 rfl (Nat.le_of_ble_eq_true rfl) (Nat.le_of_ble_eq_true rfl) ⟨rfl, rfl, rfl⟩
set_option maxHeartbeats 2000000 in
theorem x_fails {M : pM} {z c : Nat} {k : kk} (hC : CC M c k) : CW I_L_fails yL_fails [.ref c] M z (fun M' r => r = some (vI 1) ∧ CC M' c k ∧ Off M M' c (c + 131)) := by
  obtain ⟨hG, hc1, hc2, hc3, hc4, hc5, hc6⟩ := hC.facts
  have m_c : M c = _ := hC.1
  have fr : Off M M c (c + 131) := Off.rf
  refine C.intro (pl := [some (.ref c), none, none, none]) pn_L rfl (fun h => absurd h (by decide)) rfl (Nat.le_of_ble_eq_true rfl) rfl ?_
  refine g_aload_n dL_fails_0 rfl ?_
  refine z_callVV dL_fails_1 lm_L_9 lk_X8_fingerprint (c_fingerprint hC) rfl rfl m_c rfl (mkRoom rfl rfl) (Nat.le_of_ble_eq_true rfl) (Nat.le_of_ble_eq_true rfl) (Nat.le_of_ble_eq_true rfl) (fun M r hp => ?_)
  obtain ⟨rfl, hC, o1⟩ := hp
  have m_c : M c = _ := hC.1
  have fr := fr.tr o1
  refine g_lstore_n dL_fails_4 rfl (Nat.le_of_ble_eq_true rfl) ?_
  refine g_aload_n dL_fails_5 rfl ?_
  refine z_iconst dL_fails_6 ?_
  refine z_callVV dL_fails_7 lm_L_15 lk_X8_setOrder ((c_setOrder hC (by omega)).as (k' := k) (v := (-1)) (by unfold oSetOrder; rw [if_neg (by omega)])) rfl rfl m_c rfl (mkRoom rfl rfl) (Nat.le_of_ble_eq_true rfl) (Nat.le_of_ble_eq_true rfl) (Nat.le_of_ble_eq_true rfl) (fun M r hp => ?_)
  obtain ⟨rfl, hC, o1⟩ := hp
  have m_c : M c = _ := hC.1
  have fr := fr.tr o1
  refine z_iconst dL_fails_10 ?_
  refine z_icmp_ne (tgt := 105) dL_fails_11 (by decide) (by omega) (by omega) (fun c11 => absurd c11 (by omega)) (fun c11 => ?_)
  refine g_aload_n dL_fails_14 rfl ?_
  refine z_iconst dL_fails_15 ?_
  refine z_callVV dL_fails_16 lm_L_19 lk_X8_setStep ((c_setStep hC (by omega)).as (k' := k) (v := (-1)) (by unfold oSetStep; rw [if_neg (by omega)])) rfl rfl m_c rfl (mkRoom rfl rfl) (Nat.le_of_ble_eq_true rfl) (Nat.le_of_ble_eq_true rfl) (Nat.le_of_ble_eq_true rfl) (fun M r hp => ?_)
  obtain ⟨rfl, hC, o1⟩ := hp
  have m_c : M c = _ := hC.1
  have fr := fr.tr o1
  refine z_iconst dL_fails_19 ?_
  refine z_icmp_ne (tgt := 105) dL_fails_20 (by decide) (by omega) (by omega) (fun c20 => absurd c20 (by omega)) (fun c20 => ?_)
  refine g_aload_n dL_fails_23 rfl ?_
  refine z_bipush dL_fails_24 (by decide +kernel) ?_
  refine z_callVV dL_fails_26 lm_L_22 lk_X8_setLimit ((c_setLimit hC (by omega)).as (k' := k) (v := (-1)) (by unfold oSetLimit; rw [if_neg (by omega)])) rfl rfl m_c rfl (mkRoom rfl rfl) (Nat.le_of_ble_eq_true rfl) (Nat.le_of_ble_eq_true rfl) (Nat.le_of_ble_eq_true rfl) (fun M r hp => ?_)
  obtain ⟨rfl, hC, o1⟩ := hp
  have m_c : M c = _ := hC.1
  have fr := fr.tr o1
  refine z_iconst dL_fails_29 ?_
  refine z_icmp_ne (tgt := 105) dL_fails_30 (by decide) (by omega) (by omega) (fun c30 => absurd c30 (by omega)) (fun c30 => ?_)
  refine g_aload_n dL_fails_33 rfl ?_
  refine z_iconst dL_fails_34 ?_
  refine z_iconst dL_fails_35 ?_
  refine z_callVV dL_fails_36 lm_L_25 lk_X8_count ((c_count hC (by omega) (by omega)).as (k' := k) (v := (-1)) (by unfold oCount; rw [if_neg (by omega)])) rfl rfl m_c rfl (mkRoom rfl rfl) (Nat.le_of_ble_eq_true rfl) (Nat.le_of_ble_eq_true rfl) (Nat.le_of_ble_eq_true rfl) (fun M r hp => ?_)
  obtain ⟨rfl, hC, o1⟩ := hp
  have m_c : M c = _ := hC.1
  have fr := fr.tr o1
  refine z_iconst dL_fails_39 ?_
  refine z_icmp_ne (tgt := 105) dL_fails_40 (by decide) (by omega) (by omega) (fun c40 => absurd c40 (by omega)) (fun c40 => ?_)
  refine g_aload_n dL_fails_43 rfl ?_
  refine z_iconst dL_fails_44 ?_
  refine z_bipush dL_fails_45 (by decide +kernel) ?_
  refine z_callVV dL_fails_47 lm_L_25 lk_X8_count ((c_count hC (by omega) (by omega)).as (k' := k) (v := (-1)) (by unfold oCount; rw [if_neg (by omega)])) rfl rfl m_c rfl (mkRoom rfl rfl) (Nat.le_of_ble_eq_true rfl) (Nat.le_of_ble_eq_true rfl) (Nat.le_of_ble_eq_true rfl) (fun M r hp => ?_)
  obtain ⟨rfl, hC, o1⟩ := hp
  have m_c : M c = _ := hC.1
  have fr := fr.tr o1
  refine z_iconst dL_fails_50 ?_
  refine z_icmp_ne (tgt := 105) dL_fails_51 (by decide) (by omega) (by omega) (fun c51 => absurd c51 (by omega)) (fun c51 => ?_)
  refine g_aload_n dL_fails_54 rfl ?_
  refine z_iconst dL_fails_55 ?_
  refine z_callVV dL_fails_56 lm_L_29 lk_X8_weight ((c_weight hC (by omega)).as (k' := k) (v := (-1)) (by unfold oWeight; rw [if_neg (by omega)])) rfl rfl m_c rfl (mkRoom rfl rfl) (Nat.le_of_ble_eq_true rfl) (Nat.le_of_ble_eq_true rfl) (Nat.le_of_ble_eq_true rfl) (fun M r hp => ?_)
  obtain ⟨rfl, hC, o1⟩ := hp
  have m_c : M c = _ := hC.1
  have fr := fr.tr o1
  refine z_iconst dL_fails_59 ?_
  refine z_icmp_ne (tgt := 105) dL_fails_60 (by decide) (by omega) (by omega) (fun c60 => absurd c60 (by omega)) (fun c60 => ?_)
  refine g_aload_n dL_fails_63 rfl ?_
  refine z_bipush dL_fails_64 (by decide +kernel) ?_
  refine z_callVV dL_fails_66 lm_L_32 lk_X8_price ((c_price hC (by omega)).as (k' := k) (v := (-1)) (by unfold oPrice; rw [if_neg (by omega)])) rfl rfl m_c rfl (mkRoom rfl rfl) (Nat.le_of_ble_eq_true rfl) (Nat.le_of_ble_eq_true rfl) (Nat.le_of_ble_eq_true rfl) (fun M r hp => ?_)
  obtain ⟨rfl, hC, o1⟩ := hp
  have m_c : M c = _ := hC.1
  have fr := fr.tr o1
  refine z_iconst dL_fails_69 ?_
  refine z_icmp_ne (tgt := 105) dL_fails_70 (by decide) (by omega) (by omega) (fun c70 => absurd c70 (by omega)) (fun c70 => ?_)
  refine g_aload_n dL_fails_73 rfl ?_
  refine z_bipush dL_fails_74 (by decide +kernel) ?_
  refine z_callVV dL_fails_76 lm_L_35 lk_X8_type ((c_type hC (by omega)).as (k' := k) (v := (-1)) (by unfold oType; rw [if_neg (by omega)])) rfl rfl m_c rfl (mkRoom rfl rfl) (Nat.le_of_ble_eq_true rfl) (Nat.le_of_ble_eq_true rfl) (Nat.le_of_ble_eq_true rfl) (fun M r hp => ?_)
  obtain ⟨rfl, hC, o1⟩ := hp
  have m_c : M c = _ := hC.1
  have fr := fr.tr o1
  refine z_iconst dL_fails_79 ?_
  refine z_icmp_ne (tgt := 105) dL_fails_80 (by decide) (by omega) (by omega) (fun c80 => absurd c80 (by omega)) (fun c80 => ?_)
  refine g_aload_n dL_fails_83 rfl ?_
  refine z_iconst dL_fails_84 ?_
  refine z_callVV dL_fails_85 lm_L_38 lk_X8_remove ((c_remove hC (by omega)).as (k' := k) (v := (-1)) (by unfold oRemove; rw [if_pos (by omega)])) rfl rfl m_c rfl (mkRoom rfl rfl) (Nat.le_of_ble_eq_true rfl) (Nat.le_of_ble_eq_true rfl) (Nat.le_of_ble_eq_true rfl) (fun M r hp => ?_)
  obtain ⟨rfl, hC, o1⟩ := hp
  have m_c : M c = _ := hC.1
  have fr := fr.tr o1
  refine z_iconst dL_fails_88 ?_
  refine z_icmp_ne (tgt := 105) dL_fails_89 (by decide) (by omega) (by omega) (fun c89 => absurd c89 (by omega)) (fun c89 => ?_)
  refine g_aload_n dL_fails_92 rfl ?_
  refine z_iconst dL_fails_93 ?_
  refine z_callVV dL_fails_94 lm_L_41 lk_X8_codeByte ((c_codeByte hC (by omega)).as (k' := k) (v := (-1)) (by unfold oCodeByte; rw [if_neg (by omega)])) rfl rfl m_c rfl (mkRoom rfl rfl) (Nat.le_of_ble_eq_true rfl) (Nat.le_of_ble_eq_true rfl) (Nat.le_of_ble_eq_true rfl) (fun M r hp => ?_)
  obtain ⟨rfl, hC, o1⟩ := hp
  have m_c : M c = _ := hC.1
  have fr := fr.tr o1
  refine z_iconst dL_fails_97 ?_
  refine z_icmp_ne (tgt := 105) dL_fails_98 (by decide) (by omega) (by omega) (fun c98 => absurd c98 (by omega)) (fun c98 => ?_)
  refine z_iconst dL_fails_101 ?_
  refine g_goto (tgt := 106) dL_fails_102 (by decide) ?_
  refine g_istore_n dL_fails_106 rfl (Nat.le_of_ble_eq_true rfl) ?_
  refine g_iload_n dL_fails_107 rfl ?_
  refine z_if_eq (tgt := 224) dL_fails_108 (by decide) (by omega) (fun c108 => absurd c108 (by omega)) (fun c108 => ?_)
  refine g_aload_n dL_fails_111 rfl ?_
  refine g_aload_n dL_fails_112 rfl ?_
  refine z_callVV dL_fails_113 lm_L_44 lk_X8_bytes ((c_bytes hC).as (k' := k) (v := ((sC k.1).length : Int)) (rfl)) rfl rfl m_c rfl (mkRoom rfl rfl) (Nat.le_of_ble_eq_true rfl) (Nat.le_of_ble_eq_true rfl) (Nat.le_of_ble_eq_true rfl) (fun M r hp => ?_)
  obtain ⟨rfl, hC, o1⟩ := hp
  have m_c : M c = _ := hC.1
  have fr := fr.tr o1
  refine z_callVV dL_fails_116 lm_L_41 lk_X8_codeByte ((c_codeByte hC (by omega)).as (k' := k) (v := (-1)) (by unfold oCodeByte; rw [if_neg (by omega)])) rfl rfl m_c rfl (mkRoom rfl rfl) (Nat.le_of_ble_eq_true rfl) (Nat.le_of_ble_eq_true rfl) (Nat.le_of_ble_eq_true rfl) (fun M r hp => ?_)
  obtain ⟨rfl, hC, o1⟩ := hp
  have m_c : M c = _ := hC.1
  have fr := fr.tr o1
  refine z_iconst dL_fails_119 ?_
  refine z_icmp_ne (tgt := 224) dL_fails_120 (by decide) (by omega) (by omega) (fun c120 => absurd c120 (by omega)) (fun c120 => ?_)
  refine g_aload_n dL_fails_123 rfl ?_
  refine z_iconst dL_fails_124 ?_
  refine z_callVV dL_fails_125 lm_L_48 lk_X8_decoded ((c_decoded hC (by omega)).as (k' := k) (v := (-1)) (by unfold oDecoded; rw [if_pos (by omega)])) rfl rfl m_c rfl (mkRoom rfl rfl) (Nat.le_of_ble_eq_true rfl) (Nat.le_of_ble_eq_true rfl) (Nat.le_of_ble_eq_true rfl) (fun M r hp => ?_)
  obtain ⟨rfl, hC, o1⟩ := hp
  have m_c : M c = _ := hC.1
  have fr := fr.tr o1
  refine z_iconst dL_fails_128 ?_
  refine z_icmp_ne (tgt := 224) dL_fails_129 (by decide) (by omega) (by omega) (fun c129 => absurd c129 (by omega)) (fun c129 => ?_)
  refine g_aload_n dL_fails_132 rfl ?_
  refine g_aload_n dL_fails_133 rfl ?_
  refine z_callVV dL_fails_134 lm_L_44 lk_X8_bytes ((c_bytes hC).as (k' := k) (v := ((sC k.1).length : Int)) (rfl)) rfl rfl m_c rfl (mkRoom rfl rfl) (Nat.le_of_ble_eq_true rfl) (Nat.le_of_ble_eq_true rfl) (Nat.le_of_ble_eq_true rfl) (fun M r hp => ?_)
  obtain ⟨rfl, hC, o1⟩ := hp
  have m_c : M c = _ := hC.1
  have fr := fr.tr o1
  refine z_iconst dL_fails_137 ?_
  refine z_callVV dL_fails_138 lm_L_51 lk_X8_flip ((c_flip hC (by omega) (by omega)).as (k' := k) (v := (-1)) (by unfold oFlip; rw [if_neg (by omega)])) rfl rfl m_c rfl (mkRoom rfl rfl) (Nat.le_of_ble_eq_true rfl) (Nat.le_of_ble_eq_true rfl) (Nat.le_of_ble_eq_true rfl) (fun M r hp => ?_)
  obtain ⟨rfl, hC, o1⟩ := hp
  have m_c : M c = _ := hC.1
  have fr := fr.tr o1
  refine z_iconst dL_fails_141 ?_
  refine z_icmp_ne (tgt := 224) dL_fails_142 (by decide) (by omega) (by omega) (fun c142 => absurd c142 (by omega)) (fun c142 => ?_)
  refine g_aload_n dL_fails_145 rfl ?_
  refine z_iconst dL_fails_146 ?_
  refine z_bipush dL_fails_147 (by decide +kernel) ?_
  refine z_callVV dL_fails_149 lm_L_51 lk_X8_flip ((c_flip hC (by omega) (by omega)).as (k' := k) (v := (-1)) (by unfold oFlip; rw [if_neg (by omega)])) rfl rfl m_c rfl (mkRoom rfl rfl) (Nat.le_of_ble_eq_true rfl) (Nat.le_of_ble_eq_true rfl) (Nat.le_of_ble_eq_true rfl) (fun M r hp => ?_)
  obtain ⟨rfl, hC, o1⟩ := hp
  have m_c : M c = _ := hC.1
  have fr := fr.tr o1
  refine z_iconst dL_fails_152 ?_
  refine z_icmp_ne (tgt := 224) dL_fails_153 (by decide) (by omega) (by omega) (fun c153 => absurd c153 (by omega)) (fun c153 => ?_)
  refine g_aload_n dL_fails_156 rfl ?_
  refine z_iconst dL_fails_157 ?_
  refine z_callVV dL_fails_158 lm_L_54 lk_X8_cut ((c_cut hC (by omega)).as (k' := k) (v := (-1)) (by unfold oCut; rw [if_neg (by omega)])) rfl rfl m_c rfl (mkRoom rfl rfl) (Nat.le_of_ble_eq_true rfl) (Nat.le_of_ble_eq_true rfl) (Nat.le_of_ble_eq_true rfl) (fun M r hp => ?_)
  obtain ⟨rfl, hC, o1⟩ := hp
  have m_c : M c = _ := hC.1
  have fr := fr.tr o1
  refine z_iconst dL_fails_161 ?_
  refine z_icmp_ne (tgt := 224) dL_fails_162 (by decide) (by omega) (by omega) (fun c162 => absurd c162 (by omega)) (fun c162 => ?_)
  refine g_aload_n dL_fails_165 rfl ?_
  refine z_sipush dL_fails_166 (by decide +kernel) ?_
  refine z_callVV dL_fails_169 lm_L_57 lk_X8_append ((c_append hC (by omega)).as (k' := k) (v := (-1)) (by unfold oAppend; rw [if_neg (by omega)])) rfl rfl m_c rfl (mkRoom rfl rfl) (Nat.le_of_ble_eq_true rfl) (Nat.le_of_ble_eq_true rfl) (Nat.le_of_ble_eq_true rfl) (fun M r hp => ?_)
  obtain ⟨rfl, hC, o1⟩ := hp
  have m_c : M c = _ := hC.1
  have fr := fr.tr o1
  refine z_iconst dL_fails_172 ?_
  refine z_icmp_ne (tgt := 224) dL_fails_173 (by decide) (by omega) (by omega) (fun c173 => absurd c173 (by omega)) (fun c173 => ?_)
  refine g_aload_n dL_fails_176 rfl ?_
  refine g_aload_n dL_fails_177 rfl ?_
  refine z_callVV dL_fails_178 lm_L_60 lk_X8_coded ((c_coded hC).as (k' := k) (v := ((sA k.1).length : Int)) (rfl)) rfl rfl m_c rfl (mkRoom rfl rfl) (Nat.le_of_ble_eq_true rfl) (Nat.le_of_ble_eq_true rfl) (Nat.le_of_ble_eq_true rfl) (fun M r hp => ?_)
  obtain ⟨rfl, hC, o1⟩ := hp
  have m_c : M c = _ := hC.1
  have fr := fr.tr o1
  refine z_iconst dL_fails_181 ?_
  refine z_callVV dL_fails_182 lm_L_63 lk_X8_account ((c_account hC (by omega) (by omega)).as (k' := k) (v := (-1)) (by unfold oAccount; rw [if_neg (by omega)])) rfl rfl m_c rfl (mkRoom rfl rfl) (Nat.le_of_ble_eq_true rfl) (Nat.le_of_ble_eq_true rfl) (Nat.le_of_ble_eq_true rfl) (fun M r hp => ?_)
  obtain ⟨rfl, hC, o1⟩ := hp
  have m_c : M c = _ := hC.1
  have fr := fr.tr o1
  refine z_iconst dL_fails_185 ?_
  refine z_icmp_ne (tgt := 224) dL_fails_186 (by decide) (by omega) (by omega) (fun c186 => absurd c186 (by omega)) (fun c186 => ?_)
  refine g_aload_n dL_fails_189 rfl ?_
  refine z_iconst dL_fails_190 ?_
  refine z_iconst dL_fails_191 ?_
  refine z_callVV dL_fails_192 lm_L_63 lk_X8_account ((c_account hC (by omega) (by omega)).as (k' := k) (v := (-1)) (by unfold oAccount; split <;> first | rw [if_neg (by omega), if_neg (by omega), if_neg (by omega), if_neg (by omega)] | rfl)) rfl rfl m_c rfl (mkRoom rfl rfl) (Nat.le_of_ble_eq_true rfl) (Nat.le_of_ble_eq_true rfl) (Nat.le_of_ble_eq_true rfl) (fun M r hp => ?_)
  obtain ⟨rfl, hC, o1⟩ := hp
  have m_c : M c = _ := hC.1
  have fr := fr.tr o1
  refine z_iconst dL_fails_195 ?_
  refine z_icmp_ne (tgt := 224) dL_fails_196 (by decide) (by omega) (by omega) (fun c196 => absurd c196 (by omega)) (fun c196 => ?_)
  refine g_aload_n dL_fails_199 rfl ?_
  refine z_iconst dL_fails_200 ?_
  refine z_iconst dL_fails_201 ?_
  refine z_callVV dL_fails_202 lm_L_66 lk_X8_lg ((c_lg hC (by omega) (by omega)).as (k' := k) (v := (-1)) (by unfold oLg; rw [if_neg (by omega)])) rfl rfl m_c rfl (mkRoom rfl rfl) (Nat.le_of_ble_eq_true rfl) (Nat.le_of_ble_eq_true rfl) (Nat.le_of_ble_eq_true rfl) (fun M r hp => ?_)
  obtain ⟨rfl, hC, o1⟩ := hp
  have m_c : M c = _ := hC.1
  have fr := fr.tr o1
  refine z_iconst dL_fails_205 ?_
  refine z_icmp_ne (tgt := 224) dL_fails_206 (by decide) (by omega) (by omega) (fun c206 => absurd c206 (by omega)) (fun c206 => ?_)
  refine g_aload_n dL_fails_209 rfl ?_
  refine z_iconst dL_fails_210 ?_
  refine z_ldc (1000001) dL_fails_211 kc_L_69 rfl ?_
  refine z_callVV dL_fails_213 lm_L_66 lk_X8_lg ((c_lg hC (by omega) (by omega)).as (k' := k) (v := (-1)) (by unfold oLg; rw [if_neg (by omega)])) rfl rfl m_c rfl (mkRoom rfl rfl) (Nat.le_of_ble_eq_true rfl) (Nat.le_of_ble_eq_true rfl) (Nat.le_of_ble_eq_true rfl) (fun M r hp => ?_)
  obtain ⟨rfl, hC, o1⟩ := hp
  have m_c : M c = _ := hC.1
  have fr := fr.tr o1
  refine z_iconst dL_fails_216 ?_
  refine z_icmp_ne (tgt := 224) dL_fails_217 (by decide) (by omega) (by omega) (fun c217 => absurd c217 (by omega)) (fun c217 => ?_)
  refine z_iconst dL_fails_220 ?_
  refine g_goto (tgt := 225) dL_fails_221 (by decide) ?_
  refine g_istore_n dL_fails_225 rfl (Nat.le_of_ble_eq_true rfl) ?_
  refine g_iload_n dL_fails_226 rfl ?_
  refine z_if_eq (tgt := 243) dL_fails_227 (by decide) (by omega) (fun c227 => absurd c227 (by omega)) (fun c227 => ?_)
  refine g_aload_n dL_fails_230 rfl ?_
  refine z_callVV dL_fails_231 lm_L_9 lk_X8_fingerprint (c_fingerprint hC) rfl rfl m_c rfl (mkRoom rfl rfl) (Nat.le_of_ble_eq_true rfl) (Nat.le_of_ble_eq_true rfl) (Nat.le_of_ble_eq_true rfl) (fun M r hp => ?_)
  obtain ⟨rfl, hC, o1⟩ := hp
  have m_c : M c = _ := hC.1
  have fr := fr.tr o1
  refine g_lload_n dL_fails_234 rfl ?_
  refine g_lcmp dL_fails_235 ?_
  refine G.top (v' := vI 0) (by rw [cmp_self]; rfl) ?_
  refine z_if_ne (tgt := 243) dL_fails_236 (by decide) (by omega) (fun c236 => absurd c236 (by omega)) (fun c236 => ?_)
  refine z_iconst dL_fails_239 ?_
  refine g_goto (tgt := 244) dL_fails_240 (by decide) ?_
  exact g_zreturn dL_fails_244 rfl (by first | rfl | decide) (Nat.le_of_ble_eq_true rfl) (Nat.le_of_ble_eq_true rfl) ⟨rfl, rfl, hC, fr⟩
