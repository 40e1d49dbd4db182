/-! keys of contexts, the check number, the logarithm -/
/-- the last j of the first n characters -/
def cx (xs : List Int) (n j : Nat) : List Int := (xs.take n).drop (n - j)
def ck (c : List Int) : Int := c.foldl (fun k s => k * 95 + s) 1
def chk (xs : List Int) : Int := xs.foldl (fun c x => (31 * c + x + 32) % 65521) 1
def okX (xs : List Int) : Prop := ∀ x ∈ xs, 0 ≤ x ∧ x < 95
theorem okX.get {xs : List Int} (h : okX xs) (i : Nat) : 0 ≤ xs.getD i 0 ∧ xs.getD i 0 < 95 := by
  by_cases hi : i < xs.length
  · rw [List.getD_eq_getElem?_getD, List.getElem?_eq_getElem hi]; exact h _ (List.getElem_mem hi)
  · rw [List.getD_eq_getElem?_getD, List.getElem?_eq_none (by omega)]; simp
theorem cx_len {xs : List Int} {n j : Nat} (hn : n ≤ xs.length) (hj : j ≤ n) : (cx xs n j).length = j := by
  unfold cx
  rw [List.length_drop, List.length_take]
  omega
theorem cx_ok {xs : List Int} {n j : Nat} (h : okX xs) : okX (cx xs n j) := fun x hx => h x (List.mem_of_mem_take (List.mem_of_mem_drop hx))
theorem ck_snoc (c : List Int) (x : Int) : ck (c ++ [x]) = ck c * 95 + x := by unfold ck; rw [List.foldl_append]; rfl
theorem chk_snoc (c : List Int) (x : Int) : chk (c ++ [x]) = (31 * chk c + x + 32) % 65521 := by unfold chk; rw [List.foldl_append]; rfl
theorem chk_rng (xs : List Int) : 0 ≤ chk xs ∧ chk xs < 65521 := by
  rcases List.eq_nil_or_concat xs with rfl | ⟨c, x, rfl⟩
  · decide
  · rw [List.concat_eq_append, chk_snoc]; omega
theorem ck_rng {c : List Int} (h : okX c) (hl : c.length ≤ 3) : 0 ≤ ck c ∧ ck c < 2147483648 := by
  match c, h, hl with
  | [], _, _ => decide
  | [a], h, _ => have h1 := h a (by simp); unfold ck; simp only [List.foldl]; omega
  | [a, b], h, _ => have h1 := h a (by simp); have h2 := h b (by simp); unfold ck; simp only [List.foldl]; omega
  | [a, b, d], h, _ => have h1 := h a (by simp); have h2 := h b (by simp); have h3 := h d (by simp); unfold ck; simp only [List.foldl]; omega
theorem take_drop_s {xs : List Int} {n i d : Nat} (hi : i < n) (hn : n ≤ xs.length) (hd : d ≤ i) : (xs.take (i + 1)).drop d = (xs.take i).drop d ++ [xs.getD i 0] := by
  rw [List.take_succ, List.getElem?_eq_getElem (by omega), Option.toList_some, List.drop_append_of_le_length (by rw [List.length_take]; omega), List.getD_eq_getElem?_getD, List.getElem?_eq_getElem (by omega)]
  rfl
set_option maxHeartbeats 1000000 in
theorem x_contextKey {M : pM} {z q N n j : Nat} {xs : List Int} (h : Rw M q N xs) (hn : n ≤ xs.length) (hj : j ≤ n) : CR I_X8_contextKey yX8_contextKey [.ref q, vI (n : Int), vI (j : Int)] M z (some (vI (ck (cx xs n j)))) := by
  obtain ⟨g, m_q, m_a, hlen, hN, hg⟩ := id h
  refine C.intro (pl := [some (.ref q), some (vI (n : Int)), some (vI (j : Int)), none, none]) pn_X8 rfl (fun h => absurd h (by decide)) rfl (Nat.le_of_ble_eq_true rfl) rfl ?_
  have loop : ∀ (k i : Nat), n - j ≤ i → i ≤ n → n - i = k → G I_X8_contextKey 0 0 (fun M' z' r' => M' = M ∧ z' = z ∧ r' = some (vI (ck (cx xs n j)))) 0 0 7 [some (.ref q), some (vI (n : Int)), some (vI (j : Int)), some (vI (ck ((xs.take i).drop (n - j)))), some (vI (i : Int))] [] M z := by
    intro k
    induction k with
    | zero =>
      intro i h0 hi hk
      have e : i = n := by omega
      subst e
      refine g_iload dX8_contextKey_7 rfl ?_
      refine g_iload_n dX8_contextKey_9 rfl ?_
      refine z_icmp_ge (tgt := 31) dX8_contextKey_10 (by decide) (by omega) (by omega) (fun c10 => ?_) (fun c10 => absurd c10 (by omega))
      refine g_iload_n dX8_contextKey_31 rfl ?_
      exact g_ireturn dX8_contextKey_32 rfl (Nat.le_of_ble_eq_true rfl) (Nat.le_of_ble_eq_true rfl) ⟨rfl, rfl, rfl⟩
    | succ k ih =>
      intro i h0 hi hk
      have ih2 := ih (i + 1) (by omega) (by omega) (by omega)
      rw [take_drop_s (show i < n by omega) hn h0, ck_snoc] at ih2
      refine g_iload dX8_contextKey_7 rfl ?_
      refine g_iload_n dX8_contextKey_9 rfl ?_
      refine z_icmp_ge (tgt := 31) dX8_contextKey_10 (by decide) (by omega) (by omega) (fun c10 => absurd c10 (by omega)) (fun c10 => ?_)
      refine g_iload_n dX8_contextKey_13 rfl ?_
      refine z_bipush dX8_contextKey_14 (by decide +kernel) ?_
      refine z_imul dX8_contextKey_16 ?_
      refine g_aload_n dX8_contextKey_17 rfl ?_
      refine g_iload dX8_contextKey_18 rfl ?_
      refine z_callVR dX8_contextKey_20 lm_X8_105 lk_X6_item (Row_item (j := i) h (by omega)) rfl rfl m_q rfl (mkRoom rfl rfl) (Nat.le_of_ble_eq_true rfl) (Nat.le_of_ble_eq_true rfl) (Nat.le_of_ble_eq_true rfl) ?_
      refine z_iadd dX8_contextKey_23 ?_
      refine g_istore_n dX8_contextKey_24 rfl (Nat.le_of_ble_eq_true rfl) ?_
      refine z_iinc dX8_contextKey_25 rfl (Nat.le_of_ble_eq_true rfl) ?_
      refine g_goto (tgt := 7) dX8_contextKey_28 (by decide) ?_
      exact ih2
  refine z_iconst dX8_contextKey_0 ?_
  refine g_istore_n dX8_contextKey_1 rfl (Nat.le_of_ble_eq_true rfl) ?_
  refine g_iload_n dX8_contextKey_2 rfl ?_
  refine g_iload_n dX8_contextKey_3 rfl ?_
  refine z_isub dX8_contextKey_4 ?_
  refine g_istore dX8_contextKey_5 (Nat.le_of_ble_eq_true rfl) ?_
  have e0 : (vI ((n : Int) - (j : Int))) = vI ((n - j : Nat) : Int) := by rw [show ((n : Int) - (j : Int)) = ((n - j : Nat) : Int) by omega]
  have e1 : ck ((xs.take (n - j)).drop (n - j)) = 1 := by rw [List.drop_eq_nil_of_le (by rw [List.length_take]; omega)]; rfl
  have hl := loop j (n - j) (Nat.le_refl _) (by omega) (by omega)
  rw [e1, ← e0] at hl
  exact hl
set_option maxHeartbeats 1000000 in
theorem x_checkNumber {M : pM} {z q N : Nat} {xs : List Int} (h : Rw M q N xs) (hx : okX xs) : CR I_X8_checkNumber yX8_checkNumber [.ref q] M z (some (vI (chk xs))) := by
  obtain ⟨g, m_q, m_a, hlen, hN, hg⟩ := id h
  refine C.intro (pl := [some (.ref q), none, none]) pn_X8 rfl (fun h => absurd h (by decide)) rfl (Nat.le_of_ble_eq_true rfl) rfl ?_
  have loop : ∀ (k i : Nat), i ≤ xs.length → xs.length - i = k → G I_X8_checkNumber 0 0 (fun M' z' r' => M' = M ∧ z' = z ∧ r' = some (vI (chk xs))) 0 0 4 [some (.ref q), some (vI (chk (xs.take i))), some (vI (i : Int))] [] M z := by
    intro k
    induction k with
    | zero =>
      intro i hi hk
      have e : i = xs.length := by omega
      subst e
      refine g_iload_n dX8_checkNumber_4 rfl ?_
      refine g_aload_n dX8_checkNumber_5 rfl ?_
      refine z_getf fl_X8_102 dX8_checkNumber_6 m_q rfl ?_
      refine z_icmp_ge (tgt := 36) dX8_checkNumber_9 (by decide) (by omega) (by omega) (fun c9 => ?_) (fun c9 => absurd c9 (by omega))
      refine g_iload_n dX8_checkNumber_36 rfl ?_
      exact g_ireturn dX8_checkNumber_37 rfl (Nat.le_of_ble_eq_true rfl) (Nat.le_of_ble_eq_true rfl) ⟨rfl, rfl, by rw [List.take_length]⟩
    | succ k ih =>
      intro i hi hk
      have ih2 := ih (i + 1) (by omega) (by omega)
      have e := take_drop_s (xs := xs) (n := xs.length) (i := i) (d := 0) (by omega) (Nat.le_refl _) (Nat.zero_le _)
      rw [List.drop_zero, List.drop_zero] at e
      rw [e, chk_snoc] at ih2
      have hc := chk_rng (xs.take i)
      have hv := hx.get i
      refine g_iload_n dX8_checkNumber_4 rfl ?_
      refine g_aload_n dX8_checkNumber_5 rfl ?_
      refine z_getf fl_X8_102 dX8_checkNumber_6 m_q rfl ?_
      refine z_icmp_ge (tgt := 36) dX8_checkNumber_9 (by decide) (by omega) (by omega) (fun c9 => absurd c9 (by omega)) (fun c9 => ?_)
      refine z_bipush dX8_checkNumber_12 (by decide +kernel) ?_
      refine g_iload_n dX8_checkNumber_14 rfl ?_
      refine z_imul dX8_checkNumber_15 ?_
      refine g_aload_n dX8_checkNumber_16 rfl ?_
      refine g_iload_n dX8_checkNumber_17 rfl ?_
      refine z_callVR dX8_checkNumber_18 lm_X8_105 lk_X6_item (Row_item (j := i) h (by omega)) rfl rfl m_q rfl (mkRoom rfl rfl) (Nat.le_of_ble_eq_true rfl) (Nat.le_of_ble_eq_true rfl) (Nat.le_of_ble_eq_true rfl) ?_
      refine z_iadd dX8_checkNumber_21 ?_
      refine z_bipush dX8_checkNumber_22 (by decide +kernel) ?_
      refine z_iadd dX8_checkNumber_24 ?_
      refine z_ldcw (65521) dX8_checkNumber_25 kc_X8_315 rfl ?_
      refine z_irem dX8_checkNumber_28 (by omega) (by omega) ?_
      refine g_istore_n dX8_checkNumber_29 rfl (Nat.le_of_ble_eq_true rfl) ?_
      refine z_iinc dX8_checkNumber_30 rfl (Nat.le_of_ble_eq_true rfl) ?_
      refine g_goto (tgt := 4) dX8_checkNumber_33 (by decide) ?_
      exact ih2
  refine z_iconst dX8_checkNumber_0 ?_
  refine g_istore_n dX8_checkNumber_1 rfl (Nat.le_of_ble_eq_true rfl) ?_
  refine z_iconst dX8_checkNumber_2 ?_
  refine g_istore_n dX8_checkNumber_3 rfl (Nat.le_of_ble_eq_true rfl) ?_
  exact loop xs.length 0 (Nat.zero_le _) (by omega)
def lgI : Nat → Int → Int → Int
  | 0, _, s => s
  | n + 1, x, s => if 2147483648 ≤ x * x / 1073741824 then lgI n (x * x / 1073741824 / 2) (s + 2 ^ n) else lgI n (x * x / 1073741824) s
def lgz (v : Int) : Int := lgI 16 (v * 2 ^ (30 - Nat.log2 v.toNat)) (65536 * (Nat.log2 v.toNat : Int))
def lgf (v : Int) : Int := if v < 1 then 0 else lgz v
def lgc (size total : Int) : Int := lgf total - lgf size
theorem lgI_rng : ∀ (n : Nat) (x s : Int), s ≤ lgI n x s ∧ lgI n x s < s + 2 ^ n
  | 0, x, s => by simp [lgI]; omega
  | n + 1, x, s => by
    have hp : (0 : Int) < 2 ^ n := Int.pow_pos (by decide)
    rw [lgI, Int.pow_succ]
    split
    · have := lgI_rng n (x * x / 1073741824 / 2) (s + 2 ^ n); omega
    · have := lgI_rng n (x * x / 1073741824) s; omega
theorem log2_b {v : Nat} (h : 1 ≤ v) : 2 ^ Nat.log2 v ≤ v ∧ v < 2 ^ (Nat.log2 v + 1) := ⟨Nat.log2_self_le (by omega), Nat.lt_log2_self⟩
theorem log2_le {v : Nat} (h : v < 2147483648) : Nat.log2 v ≤ 30 := by
  by_cases h0 : v = 0
  · subst h0; simp
  · have := (Nat.log2_lt h0 (k := 31)).mpr (by omega)
    omega
theorem lgf_rng {v : Int} (h : v < 2147483648) : 0 ≤ lgf v ∧ lgf v < 2031616 := by
  unfold lgf
  split
  · omega
  · have h1 := lgI_rng 16 (v * 2 ^ (30 - Nat.log2 v.toNat)) (65536 * (Nat.log2 v.toNat : Int))
    have h2 := log2_le (v := v.toNat) (by omega)
    unfold lgz
    omega
theorem lgx_step {x : Int} (h : 1073741824 ≤ x ∧ x < 2147483648) : 1073741824 ≤ x * x / 1073741824 ∧ x * x / 1073741824 < 4294967296 ∧ 0 ≤ x * x ∧ x * x < 4611686018427387904 := by
  have h1 : 1073741824 * 1073741824 ≤ x * x := Int.mul_le_mul h.1 h.1 (by decide) (by omega)
  have h2 : x * x ≤ 2147483647 * 2147483647 := Int.mul_le_mul (by omega) (by omega) (by omega) (by decide)
  omega
set_option maxHeartbeats 1000000 in
theorem x_logarithm {M : pM} {z : Nat} {v : Int} (hv : -2147483648 ≤ v ∧ v < 2147483648) : CR I_X8_logarithm yX8_logarithm [vI v] M z (some (vI (lgf v))) := by
  refine C.intro (pl := [some (vI v), none, none, none, none, none]) pn_X8 rfl (fun h => absurd h (by decide)) rfl (Nat.le_of_ble_eq_true rfl) rfl ?_
  by_cases h1 : v < 1
  · refine g_iload_n dX8_logarithm_0 rfl ?_
    refine z_iconst dX8_logarithm_1 ?_
    refine z_icmp_ge (tgt := 7) dX8_logarithm_2 (by decide) (by omega) (by omega) (fun c2 => absurd c2 (by omega)) (fun c2 => ?_)
    refine z_iconst dX8_logarithm_5 ?_
    exact g_ireturn dX8_logarithm_6 rfl (Nat.le_of_ble_eq_true rfl) (Nat.le_of_ble_eq_true rfl) ⟨rfl, rfl, by unfold lgf; rw [if_pos h1]⟩
  · obtain ⟨n, rfl⟩ : ∃ n : Nat, v = n := ⟨v.toNat, by omega⟩
    have e : lgf (n : Int) = lgz n := by unfold lgf; rw [if_neg h1]
    rw [e]
    have hb := log2_b (v := n) (by omega)
    have hl := log2_le (v := n) (by omega)
    have loop2 : ∀ (i : Nat) (x s : Int) , i ≤ 16 → 1073741824 ≤ x ∧ x < 2147483648 → ∀ K : Int, G I_X8_logarithm 0 0 (fun M' z' r' => M' = M ∧ z' = z ∧ r' = some (vI (lgI i x s))) 0 0 47 [some (vI (n : Int)), some (vI K), some (vL x), none, some (vI s), some (vI ((i : Int) - 1))] [] M z := by
      intro i
      induction i with
      | zero =>
        intro x s hi hx K
        refine g_iload dX8_logarithm_47 rfl ?_
        refine z_if_lt (tgt := 86) dX8_logarithm_49 (by decide) (by omega) (fun c49 => ?_) (fun c49 => absurd c49 (by omega))
        refine g_iload dX8_logarithm_86 rfl ?_
        exact g_ireturn dX8_logarithm_88 rfl (Nat.le_of_ble_eq_true rfl) (Nat.le_of_ble_eq_true rfl) ⟨rfl, rfl, rfl⟩
      | succ i ih =>
        intro x s hi hx K
        have hs := lgx_step hx
        have e30 : (2 : Int) ^ 30 = 1073741824 := by decide
        rw [lgI]
        have e0 : (((i + 1 : Nat) : Int) - 1) = (i : Int) := by omega
        rw [e0]
        refine g_iload dX8_logarithm_47 rfl ?_
        refine z_if_lt (tgt := 86) dX8_logarithm_49 (by decide) (by omega) (fun c49 => absurd c49 (by omega)) (fun c49 => ?_)
        refine g_lload_n dX8_logarithm_52 rfl ?_
        refine g_lload_n dX8_logarithm_53 rfl ?_
        refine z_lmul dX8_logarithm_54 ?_
        refine z_bipush dX8_logarithm_55 (by decide +kernel) ?_
        refine g_lshr dX8_logarithm_57 ?_
        refine G.top (v' := vL (x * x / 1073741824)) (by rw [show iZ 30 = iZ ((30 : Nat) : Int) from rfl, lZ_shr (s := 30) (by omega) (by omega), e30]) ?_
        refine g_lstore_n dX8_logarithm_58 rfl (Nat.le_of_ble_eq_true rfl) ?_
        refine g_lload_n dX8_logarithm_59 rfl ?_
        refine z_ldc2 (2147483648) dX8_logarithm_60 kc_X8_319 rfl ?_
        refine z_lcmp dX8_logarithm_63 (by omega) (by omega) (fun c63 => ?_) (fun c63 => ?_) (fun c63 => ?_)
        · refine z_if_lt (tgt := 80) dX8_logarithm_64 (by decide) (by decide) (fun q => absurd q (by decide)) (fun _ => ?_)
          refine g_lload_n dX8_logarithm_67 rfl ?_
          refine z_iconst dX8_logarithm_68 ?_
          refine g_lshr dX8_logarithm_69 ?_
          refine G.top (v' := vL (x * x / 1073741824 / 2)) (by rw [show iZ 1 = iZ ((1 : Nat) : Int) from rfl, lZ_shr (s := 1) (by omega) (by omega), Int.pow_one]) ?_
          refine g_lstore_n dX8_logarithm_70 rfl (Nat.le_of_ble_eq_true rfl) ?_
          refine g_iload dX8_logarithm_71 rfl ?_
          refine z_iconst dX8_logarithm_73 ?_
          refine g_iload dX8_logarithm_74 rfl ?_
          refine g_ishl dX8_logarithm_76 ?_
          refine G.top (v' := vI (2 ^ i)) (by rw [iZ_shl 1 (by omega), Int.one_mul]) ?_
          refine z_iadd dX8_logarithm_77 ?_
          refine g_istore dX8_logarithm_78 (Nat.le_of_ble_eq_true rfl) ?_
          refine z_iinc dX8_logarithm_80 rfl (Nat.le_of_ble_eq_true rfl) ?_
          refine g_goto (tgt := 47) dX8_logarithm_83 (by decide) ?_
          first
          | (rw [if_pos (by omega)]; exact ih (x * x / 1073741824 / 2) (s + 2 ^ i) (by omega) (by omega) K)
          | (rw [if_neg (by omega)]; exact ih (x * x / 1073741824) s (by omega) (by omega) K)
        · refine z_if_lt (tgt := 80) dX8_logarithm_64 (by decide) (by decide) (fun q => absurd q (by decide)) (fun _ => ?_)
          refine g_lload_n dX8_logarithm_67 rfl ?_
          refine z_iconst dX8_logarithm_68 ?_
          refine g_lshr dX8_logarithm_69 ?_
          refine G.top (v' := vL (x * x / 1073741824 / 2)) (by rw [show iZ 1 = iZ ((1 : Nat) : Int) from rfl, lZ_shr (s := 1) (by omega) (by omega), Int.pow_one]) ?_
          refine g_lstore_n dX8_logarithm_70 rfl (Nat.le_of_ble_eq_true rfl) ?_
          refine g_iload dX8_logarithm_71 rfl ?_
          refine z_iconst dX8_logarithm_73 ?_
          refine g_iload dX8_logarithm_74 rfl ?_
          refine g_ishl dX8_logarithm_76 ?_
          refine G.top (v' := vI (2 ^ i)) (by rw [iZ_shl 1 (by omega), Int.one_mul]) ?_
          refine z_iadd dX8_logarithm_77 ?_
          refine g_istore dX8_logarithm_78 (Nat.le_of_ble_eq_true rfl) ?_
          refine z_iinc dX8_logarithm_80 rfl (Nat.le_of_ble_eq_true rfl) ?_
          refine g_goto (tgt := 47) dX8_logarithm_83 (by decide) ?_
          first
          | (rw [if_pos (by omega)]; exact ih (x * x / 1073741824 / 2) (s + 2 ^ i) (by omega) (by omega) K)
          | (rw [if_neg (by omega)]; exact ih (x * x / 1073741824) s (by omega) (by omega) K)
        · refine z_if_lt (tgt := 80) dX8_logarithm_64 (by decide) (by decide) (fun _ => ?_) (fun q => absurd q (by decide))
          refine z_iinc dX8_logarithm_80 rfl (Nat.le_of_ble_eq_true rfl) ?_
          refine g_goto (tgt := 47) dX8_logarithm_83 (by decide) ?_
          first
          | (rw [if_pos (by omega)]; exact ih (x * x / 1073741824 / 2) (s + 2 ^ i) (by omega) (by omega) K)
          | (rw [if_neg (by omega)]; exact ih (x * x / 1073741824) s (by omega) (by omega) K)
    have loop1 : ∀ (m k : Nat), k ≤ Nat.log2 n → Nat.log2 n - k = m → G I_X8_logarithm 0 0 (fun M' z' r' => M' = M ∧ z' = z ∧ r' = some (vI (lgz n))) 0 0 9 [some (vI (n : Int)), some (vI (k : Int)), none, none, none, none] [] M z := by
      have tail : G I_X8_logarithm 0 0 (fun M' z' r' => M' = M ∧ z' = z ∧ r' = some (vI (lgz n))) 0 0 29 [some (vI (n : Int)), some (vI (Nat.log2 n : Int)), none, none, none, none] [] M z := by
        have hp : 2 ^ Nat.log2 n * 2 ^ (30 - Nat.log2 n) = 1073741824 := by rw [← Nat.pow_add, show Nat.log2 n + (30 - Nat.log2 n) = 30 by omega]
        have hp2 : 2 ^ (Nat.log2 n + 1) * 2 ^ (30 - Nat.log2 n) = 2147483648 := by rw [← Nat.pow_add, show Nat.log2 n + 1 + (30 - Nat.log2 n) = 31 by omega]
        have hx1 : 1073741824 ≤ n * 2 ^ (30 - Nat.log2 n) := by rw [← hp]; exact Nat.mul_le_mul_right _ hb.1
        have hx2 : n * 2 ^ (30 - Nat.log2 n) < 2147483648 := by rw [← hp2]; exact Nat.mul_lt_mul_of_pos_right hb.2 (Nat.pow_pos (by decide))
        have ex : ((n : Int) * 2 ^ (30 - Nat.log2 n)) = ((n * 2 ^ (30 - Nat.log2 n) : Nat) : Int) := by push_cast; rfl
        have e2 : ((30 : Int) - (Nat.log2 n : Int)) = ((30 - Nat.log2 n : Nat) : Int) := by omega
        refine g_iload_n dX8_logarithm_29 rfl ?_
        refine z_i2l dX8_logarithm_30 (by omega) ?_
        refine z_bipush dX8_logarithm_31 (by decide +kernel) ?_
        refine g_iload_n dX8_logarithm_33 rfl ?_
        refine z_isub dX8_logarithm_34 ?_
        refine g_lshl dX8_logarithm_35 ?_
        refine G.top (v' := vL ((n : Int) * 2 ^ (30 - Nat.log2 n))) (by rw [e2, lZ_shl (n : Int) (by omega)]) ?_
        refine g_lstore_n dX8_logarithm_36 rfl (Nat.le_of_ble_eq_true rfl) ?_
        refine z_ldc (65536) dX8_logarithm_37 kc_X8_245 rfl ?_
        refine g_iload_n dX8_logarithm_39 rfl ?_
        refine z_imul dX8_logarithm_40 ?_
        refine g_istore dX8_logarithm_41 (Nat.le_of_ble_eq_true rfl) ?_
        refine z_bipush dX8_logarithm_43 (by decide +kernel) ?_
        refine g_istore dX8_logarithm_45 (Nat.le_of_ble_eq_true rfl) ?_
        exact loop2 16 _ _ (by omega) (by rw [Int.toNat_natCast, ex]; omega) _
      intro m
      induction m with
      | zero =>
        intro k hk hm
        have ek : k = Nat.log2 n := by omega
        subst ek
        have hd : (n : Int) / 2 ^ (Nat.log2 n + 1) = 0 := Int.ediv_eq_zero_of_lt (by omega) (by have := hb.2; exact_mod_cast this)
        refine g_iload_n dX8_logarithm_9 rfl ?_
        refine z_bipush dX8_logarithm_10 (by decide +kernel) ?_
        refine z_icmp_ge (tgt := 29) dX8_logarithm_12 (by decide) (by omega) (by omega) (fun c12 => ?_) (fun c12 => ?_)
        · exact tail
        · refine g_iload_n dX8_logarithm_15 rfl ?_
          refine g_iload_n dX8_logarithm_16 rfl ?_
          refine z_iconst dX8_logarithm_17 ?_
          refine z_iadd dX8_logarithm_18 ?_
          refine g_ishr dX8_logarithm_19 ?_
          refine G.top (v' := vI (0)) (by rw [show ((Nat.log2 n : Int) + 1) = ((Nat.log2 n + 1 : Nat) : Int) by omega, iZ_shr (by omega) (by omega), hd]) ?_
          refine z_if_le (tgt := 29) dX8_logarithm_20 (by decide) (by omega) (fun c20 => ?_) (fun c20 => absurd c20 (by omega))
          exact tail
      | succ m ih =>
        intro k hk hm
        have hd : 0 < (n : Int) / 2 ^ (k + 1) := by
          have h2 : 2 ^ (k + 1) ≤ n := Nat.le_trans (Nat.pow_le_pow_right (by decide) (by omega)) hb.1
          have h3 : 0 < n / 2 ^ (k + 1) := Nat.div_pos h2 (Nat.pow_pos (by decide))
          have h4 : ((n : Int) / 2 ^ (k + 1)) = ((n / 2 ^ (k + 1) : Nat) : Int) := by push_cast; rfl
          omega
        have hd2 : (n : Int) / 2 ^ (k + 1) ≤ n := Int.ediv_le_self _ (by omega)
        refine g_iload_n dX8_logarithm_9 rfl ?_
        refine z_bipush dX8_logarithm_10 (by decide +kernel) ?_
        refine z_icmp_ge (tgt := 29) dX8_logarithm_12 (by decide) (by omega) (by omega) (fun c12 => absurd c12 (by omega)) (fun c12 => ?_)
        refine g_iload_n dX8_logarithm_15 rfl ?_
        refine g_iload_n dX8_logarithm_16 rfl ?_
        refine z_iconst dX8_logarithm_17 ?_
        refine z_iadd dX8_logarithm_18 ?_
        refine g_ishr dX8_logarithm_19 ?_
        refine G.top (v' := vI ((n : Int) / 2 ^ (k + 1))) (by rw [show ((k : Int) + 1) = ((k + 1 : Nat) : Int) by omega, iZ_shr (by omega) (by omega)]) ?_
        refine z_if_le (tgt := 29) dX8_logarithm_20 (by decide) (by omega) (fun c20 => absurd c20 (by omega)) (fun c20 => ?_)
        refine z_iinc dX8_logarithm_23 rfl (Nat.le_of_ble_eq_true rfl) ?_
        refine g_goto (tgt := 9) dX8_logarithm_26 (by decide) ?_
        exact ih (k + 1) (by omega) (by omega)
    refine g_iload_n dX8_logarithm_0 rfl ?_
    refine z_iconst dX8_logarithm_1 ?_
    refine z_icmp_ge (tgt := 7) dX8_logarithm_2 (by decide) (by omega) (by omega) (fun c2 => ?_) (fun c2 => absurd c2 (by omega))
    refine z_iconst dX8_logarithm_7 ?_
    refine g_istore_n dX8_logarithm_8 rfl (Nat.le_of_ble_eq_true rfl) ?_
    exact loop1 (Nat.log2 n) 0 (Nat.zero_le _) (by omega)
set_option maxHeartbeats 1000000 in
theorem x_intervalCost {M : pM} {z : Nat} {a t : Int} (ha : -2147483648 ≤ a ∧ a < 2147483648) (ht : -2147483648 ≤ t ∧ t < 2147483648) : CR I_X8_intervalCost yX8_intervalCost [vI a, vI t] M z (some (vI (lgc a t))) := by
  refine C.intro (pl := [some (vI a), some (vI t)]) pn_X8 rfl (fun h => absurd h (by decide)) rfl (Nat.le_of_ble_eq_true rfl) rfl ?_
  refine g_iload_n dX8_intervalCost_0 rfl ?_
  refine z_callSR dX8_intervalCost_1 lm_X8_316 lk_X8_logarithm (x_logarithm ht) rfl rfl (mkRoom rfl rfl) (Nat.le_of_ble_eq_true rfl) (Nat.le_of_ble_eq_true rfl) (Nat.le_of_ble_eq_true rfl) ?_
  refine g_iload_n dX8_intervalCost_4 rfl ?_
  refine z_callSR dX8_intervalCost_5 lm_X8_316 lk_X8_logarithm (x_logarithm ha) rfl rfl (mkRoom rfl rfl) (Nat.le_of_ble_eq_true rfl) (Nat.le_of_ble_eq_true rfl) (Nat.le_of_ble_eq_true rfl) ?_
  refine z_isub dX8_intervalCost_8 ?_
  exact g_ireturn dX8_intervalCost_9 rfl (Nat.le_of_ble_eq_true rfl) (Nat.le_of_ble_eq_true rfl) ⟨rfl, rfl, rfl⟩
