/-! the reference: keys, rows of characters, the check number, the logarithm -/
def rk (c : List Int) : Int := c.foldl (fun k s => 97 * k + (s + 32) - 31) (c.length : Int)
theorem rk_rng {c : List Int} (h : okX c) (hl : c.length ≤ 3) : 0 ≤ rk c ∧ rk c < 2147483648 := by
  match c, h, hl with
  | [], _, _ => decide
  | [a], h, _ => have h1 := h a (by simp); unfold rk; simp only [List.foldl, List.length]; omega
  | [a, b], h, _ => have h1 := h a (by simp); have h2 := h b (by simp); unfold rk; simp only [List.foldl, List.length]; omega
  | [a, b, d], h, _ => have h1 := h a (by simp); have h2 := h b (by simp); have h3 := h d (by simp); unfold rk; simp only [List.foldl, List.length]; omega
theorem key_inj {c e : List Int} (h : okX c) (hl : c.length ≤ 3) (g : okX e) (gl : e.length ≤ 3) (hh : ck c = ck e ∨ rk c = rk e) : c = e := by
  match c, h, hl with
  | [], _, _ =>
    match e, g, gl with
    | [], _, _ => rfl
    | [a2], g, _ => exfalso; have g1 := g a2 (by simp); unfold ck rk at hh; simp only [List.foldl, List.length] at hh; omega
    | [a2, b2], g, _ => exfalso; have g1 := g a2 (by simp); have g2 := g b2 (by simp); unfold ck rk at hh; simp only [List.foldl, List.length] at hh; omega
    | [a2, b2, d2], g, _ => exfalso; have g1 := g a2 (by simp); have g2 := g b2 (by simp); have g3 := g d2 (by simp); unfold ck rk at hh; simp only [List.foldl, List.length] at hh; omega
  | [a], h, _ =>
    have h1 := h a (by simp)
    match e, g, gl with
    | [], _, _ => exfalso; unfold ck rk at hh; simp only [List.foldl, List.length] at hh; omega
    | [a2], g, _ => have g1 := g a2 (by simp); unfold ck rk at hh; simp only [List.foldl, List.length] at hh; rw [show a = a2 by omega]
    | [a2, b2], g, _ => exfalso; have g1 := g a2 (by simp); have g2 := g b2 (by simp); unfold ck rk at hh; simp only [List.foldl, List.length] at hh; omega
    | [a2, b2, d2], g, _ => exfalso; have g1 := g a2 (by simp); have g2 := g b2 (by simp); have g3 := g d2 (by simp); unfold ck rk at hh; simp only [List.foldl, List.length] at hh; omega
  | [a, b], h, _ =>
    have h1 := h a (by simp)
    have h2 := h b (by simp)
    match e, g, gl with
    | [], _, _ => exfalso; unfold ck rk at hh; simp only [List.foldl, List.length] at hh; omega
    | [a2], g, _ => exfalso; have g1 := g a2 (by simp); unfold ck rk at hh; simp only [List.foldl, List.length] at hh; omega
    | [a2, b2], g, _ => have g1 := g a2 (by simp); have g2 := g b2 (by simp); unfold ck rk at hh; simp only [List.foldl, List.length] at hh; rw [show a = a2 by omega, show b = b2 by omega]
    | [a2, b2, d2], g, _ => exfalso; have g1 := g a2 (by simp); have g2 := g b2 (by simp); have g3 := g d2 (by simp); unfold ck rk at hh; simp only [List.foldl, List.length] at hh; omega
  | [a, b, d], h, _ =>
    have h1 := h a (by simp)
    have h2 := h b (by simp)
    have h3 := h d (by simp)
    match e, g, gl with
    | [], _, _ => exfalso; unfold ck rk at hh; simp only [List.foldl, List.length] at hh; omega
    | [a2], g, _ => exfalso; have g1 := g a2 (by simp); unfold ck rk at hh; simp only [List.foldl, List.length] at hh; omega
    | [a2, b2], g, _ => exfalso; have g1 := g a2 (by simp); have g2 := g b2 (by simp); unfold ck rk at hh; simp only [List.foldl, List.length] at hh; omega
    | [a2, b2, d2], g, _ => have g1 := g a2 (by simp); have g2 := g b2 (by simp); have g3 := g d2 (by simp); unfold ck rk at hh; simp only [List.foldl, List.length] at hh; rw [show a = a2 by omega, show b = b2 by omega, show d = d2 by omega]
/-- a key of the class and one of the reference that stand for one context -/
def kr (a b : Int) : Prop := ∃ c : List Int, okX c ∧ c.length ≤ 3 ∧ ck c = a ∧ rk c = b
theorem kr.eq {a b : Int} (h : kr a b) {c : List Int} (hc : okX c) (hl : c.length ≤ 3) : a = ck c ↔ b = rk c := by
  obtain ⟨e, h1, h2, rfl, rfl⟩ := h
  exact ⟨fun hh => by rw [key_inj h1 h2 hc hl (Or.inl hh)], fun hh => by rw [key_inj h1 h2 hc hl (Or.inr hh)]⟩
theorem kr.rng {a b : Int} (h : kr a b) : 0 ≤ b ∧ b < 2147483648 := by
  obtain ⟨e, h1, h2, rfl, rfl⟩ := h
  exact rk_rng h1 h2
/-- a row of characters -/
def Tx (M : pM) (q N : Nat) (xs : List Int) : Prop := ∃ g : Nat → Int, M q = some (arI N g) ∧ xs.length ≤ N ∧ N < 2147483648 ∧ ∀ i : Nat, i < xs.length → g i = xs.getD i 0 + 32
theorem Tx.by_ {M M' : pM} {q N : Nat} {xs : List Int} (h : Tx M q N xs) (e : M' q = M q) : Tx M' q N xs := by
  obtain ⟨g, h1, h2⟩ := h
  exact ⟨g, e.trans h1, h2⟩
theorem Tx.len {M : pM} {q N : Nat} {xs : List Int} (h : Tx M q N xs) : xs.length ≤ N ∧ N < 2147483648 := by obtain ⟨g, h1, h2, h3, -⟩ := h; exact ⟨h2, h3⟩
set_option maxHeartbeats 1000000 in
theorem r_in {M : pM} {z : Nat} {x lo hi : Int} (h1 : -2147483648 ≤ x ∧ x < 2147483648) (h2 : -2147483648 ≤ lo ∧ lo < 2147483648) (h3 : -2147483648 ≤ hi ∧ hi < 2147483648) : CR I_X9_in yX9_in [vI x, vI lo, vI hi] M z (some (vI (if lo ≤ x ∧ x ≤ hi then 1 else 0))) := by
  refine C.intro (pl := [some (vI x), some (vI lo), some (vI hi)]) pn_X9 rfl (fun h => absurd h (by decide)) rfl (Nat.le_of_ble_eq_true rfl) rfl ?_
  refine g_iload_n dX9_in_0 rfl ?_
  refine g_iload_n dX9_in_1 rfl ?_
  refine z_icmp_lt (tgt := 14) dX9_in_2 (by decide) (by omega) (by omega) (fun c2 => ?_) (fun c2 => ?_)
  · refine z_iconst dX9_in_14 ?_
    exact g_zreturn dX9_in_15 rfl (by first | rfl | decide) (Nat.le_of_ble_eq_true rfl) (Nat.le_of_ble_eq_true rfl) ⟨rfl, rfl, by first | rw [if_pos (by omega)] | rw [if_neg (by omega)]⟩
  · refine g_iload_n dX9_in_5 rfl ?_
    refine g_iload_n dX9_in_6 rfl ?_
    refine z_icmp_gt (tgt := 14) dX9_in_7 (by decide) (by omega) (by omega) (fun c7 => ?_) (fun c7 => ?_)
    · refine z_iconst dX9_in_14 ?_
      exact g_zreturn dX9_in_15 rfl (by first | rfl | decide) (Nat.le_of_ble_eq_true rfl) (Nat.le_of_ble_eq_true rfl) ⟨rfl, rfl, by first | rw [if_pos (by omega)] | rw [if_neg (by omega)]⟩
    · refine z_iconst dX9_in_10 ?_
      refine g_goto (tgt := 15) dX9_in_11 (by decide) ?_
      exact g_zreturn dX9_in_15 rfl (by first | rfl | decide) (Nat.le_of_ble_eq_true rfl) (Nat.le_of_ble_eq_true rfl) ⟨rfl, rfl, by first | rw [if_pos (by omega)] | rw [if_neg (by omega)]⟩
theorem r_in_t {M : pM} {z : Nat} {x lo hi : Int} (h1 : -2147483648 ≤ x ∧ x < 2147483648) (h2 : -2147483648 ≤ lo ∧ lo < 2147483648) (h3 : -2147483648 ≤ hi ∧ hi < 2147483648) (h : lo ≤ x ∧ x ≤ hi) : CR I_X9_in yX9_in [vI x, vI lo, vI hi] M z (some (vI 1)) := (r_in h1 h2 h3).eq (by rw [if_pos h])
theorem r_in_f {M : pM} {z : Nat} {x lo hi : Int} (h1 : -2147483648 ≤ x ∧ x < 2147483648) (h2 : -2147483648 ≤ lo ∧ lo < 2147483648) (h3 : -2147483648 ≤ hi ∧ hi < 2147483648) (h : ¬ (lo ≤ x ∧ x ≤ hi)) : CR I_X9_in yX9_in [vI x, vI lo, vI hi] M z (some (vI 0)) := (r_in h1 h2 h3).eq (by rw [if_neg h])
set_option maxHeartbeats 1000000 in
theorem r_keyOf {M : pM} {z q N n j : Nat} {xs : List Int} (h : Tx M q N xs) (hn : n ≤ xs.length) (hj : j ≤ n) : CR I_X9_keyOf yX9_keyOf [.ref q, vI (n : Int), vI (j : Int)] M z (some (vI (rk (cx xs n j)))) := by
  obtain ⟨g, m_a, hlen, hN, hg⟩ := id h
  refine C.intro (pl := [some (.ref q), some (vI (n : Int)), some (vI (j : Int)), none, none]) pn_X9 rfl (fun h => absurd h (by decide)) rfl (Nat.le_of_ble_eq_true rfl) rfl ?_
  have loop : ∀ (k i : Nat), n - j ≤ i → i ≤ n → n - i = k → G I_X9_keyOf 0 0 (fun M' z' r' => M' = M ∧ z' = z ∧ r' = some (vI (rk (cx xs n j)))) 0 0 7 [some (.ref q), some (vI (n : Int)), some (vI (j : Int)), some (vI (((xs.take i).drop (n - j)).foldl (fun k s => 97 * k + (s + 32) - 31) (j : Int))), some (vI (i : Int))] [] M z := by
    intro k
    induction k with
    | zero =>
      intro i h0 hi hk
      have e : i = n := by omega
      subst e
      refine g_iload dX9_keyOf_7 rfl ?_
      refine g_iload_n dX9_keyOf_9 rfl ?_
      refine z_icmp_ge (tgt := 32) dX9_keyOf_10 (by decide) (by omega) (by omega) (fun c10 => ?_) (fun c10 => absurd c10 (by omega))
      refine g_iload_n dX9_keyOf_32 rfl ?_
      exact g_ireturn dX9_keyOf_33 rfl (Nat.le_of_ble_eq_true rfl) (Nat.le_of_ble_eq_true rfl) ⟨rfl, rfl, by unfold rk; rw [cx_len hn hj]; rfl⟩
    | succ k ih =>
      intro i h0 hi hk
      have ih2 := ih (i + 1) (by omega) (by omega) (by omega)
      rw [take_drop_s (show i < n by omega) hn h0, List.foldl_append, List.foldl_cons, List.foldl_nil, ← hg i (by omega)] at ih2
      refine g_iload dX9_keyOf_7 rfl ?_
      refine g_iload_n dX9_keyOf_9 rfl ?_
      refine z_icmp_ge (tgt := 32) dX9_keyOf_10 (by decide) (by omega) (by omega) (fun c10 => absurd c10 (by omega)) (fun c10 => ?_)
      refine z_bipush dX9_keyOf_13 (by decide +kernel) ?_
      refine g_iload_n dX9_keyOf_15 rfl ?_
      refine z_imul dX9_keyOf_16 ?_
      refine g_aload_n dX9_keyOf_17 rfl ?_
      refine g_iload dX9_keyOf_18 rfl ?_
      refine z_iaload (j := i) dX9_keyOf_20 m_a rfl (by omega) (by omega) ?_
      refine z_iadd dX9_keyOf_21 ?_
      refine z_bipush dX9_keyOf_22 (by decide +kernel) ?_
      refine z_isub dX9_keyOf_24 ?_
      refine g_istore_n dX9_keyOf_25 rfl (Nat.le_of_ble_eq_true rfl) ?_
      refine z_iinc dX9_keyOf_26 rfl (Nat.le_of_ble_eq_true rfl) ?_
      refine g_goto (tgt := 7) dX9_keyOf_29 (by decide) ?_
      exact ih2
  refine g_iload_n dX9_keyOf_0 rfl ?_
  refine g_istore_n dX9_keyOf_1 rfl (Nat.le_of_ble_eq_true rfl) ?_
  refine g_iload_n dX9_keyOf_2 rfl ?_
  refine g_iload_n dX9_keyOf_3 rfl ?_
  refine z_isub dX9_keyOf_4 ?_
  refine g_istore dX9_keyOf_5 (Nat.le_of_ble_eq_true rfl) ?_
  have e0 : (vI ((n : Int) - (j : Int))) = vI ((n - j : Nat) : Int) := by rw [show ((n : Int) - (j : Int)) = ((n - j : Nat) : Int) by omega]
  have e1 : ((xs.take (n - j)).drop (n - j)).foldl (fun k s => 97 * k + (s + 32) - 31) (j : Int) = (j : Int) := by rw [List.drop_eq_nil_of_le (by rw [List.length_take]; omega)]; rfl
  have hl := loop j (n - j) (Nat.le_refl _) (by omega) (by omega)
  rw [e1, ← e0] at hl
  exact hl
set_option maxHeartbeats 1000000 in
theorem r_checkOf {M : pM} {z q N : Nat} {xs : List Int} (h : Tx M q N xs) (hx : okX xs) : CR I_X9_checkOf yX9_checkOf [.ref q, vI (xs.length : Int)] M z (some (vI (chk xs))) := by
  obtain ⟨g, m_a, hlen, hN, hg⟩ := id h
  refine C.intro (pl := [some (.ref q), some (vI (xs.length : Int)), none, none]) pn_X9 rfl (fun h => absurd h (by decide)) rfl (Nat.le_of_ble_eq_true rfl) rfl ?_
  have loop : ∀ (k i : Nat), i ≤ xs.length → xs.length - i = k → G I_X9_checkOf 0 0 (fun M' z' r' => M' = M ∧ z' = z ∧ r' = some (vI (chk xs))) 0 0 4 [some (.ref q), some (vI (xs.length : Int)), some (vI (chk (xs.take i))), some (vI (i : Int))] [] M z := by
    intro k
    induction k with
    | zero =>
      intro i hi hk
      have e : i = xs.length := by omega
      subst e
      refine g_iload_n dX9_checkOf_4 rfl ?_
      refine g_iload_n dX9_checkOf_5 rfl ?_
      refine z_icmp_ge (tgt := 27) dX9_checkOf_6 (by decide) (by omega) (by omega) (fun c6 => ?_) (fun c6 => absurd c6 (by omega))
      refine g_iload_n dX9_checkOf_27 rfl ?_
      exact g_ireturn dX9_checkOf_28 rfl (Nat.le_of_ble_eq_true rfl) (Nat.le_of_ble_eq_true rfl) ⟨rfl, rfl, by rw [List.take_length]⟩
    | succ k ih =>
      intro i hi hk
      have ih2 := ih (i + 1) (by omega) (by omega)
      have e := take_drop_s (xs := xs) (n := xs.length) (i := i) (d := 0) (by omega) (Nat.le_refl _) (Nat.zero_le _)
      rw [List.drop_zero, List.drop_zero] at e
      have hc := chk_rng (xs.take i)
      have hb := hx.get i
      have hgi := hg i (by omega)
      rw [e, chk_snoc, show 31 * chk (xs.take i) + xs.getD i 0 + 32 = 31 * chk (xs.take i) + g i by omega] at ih2
      refine g_iload_n dX9_checkOf_4 rfl ?_
      refine g_iload_n dX9_checkOf_5 rfl ?_
      refine z_icmp_ge (tgt := 27) dX9_checkOf_6 (by decide) (by omega) (by omega) (fun c6 => absurd c6 (by omega)) (fun c6 => ?_)
      refine z_bipush dX9_checkOf_9 (by decide +kernel) ?_
      refine g_iload_n dX9_checkOf_11 rfl ?_
      refine z_imul dX9_checkOf_12 ?_
      refine g_aload_n dX9_checkOf_13 rfl ?_
      refine g_iload_n dX9_checkOf_14 rfl ?_
      refine z_iaload (j := i) dX9_checkOf_15 m_a rfl (by omega) (by omega) ?_
      refine z_iadd dX9_checkOf_16 ?_
      refine z_ldc (65521) dX9_checkOf_17 kc_X9_156 rfl ?_
      refine z_irem dX9_checkOf_19 (by omega) (by omega) ?_
      refine g_istore_n dX9_checkOf_20 rfl (Nat.le_of_ble_eq_true rfl) ?_
      refine z_iinc dX9_checkOf_21 rfl (Nat.le_of_ble_eq_true rfl) ?_
      refine g_goto (tgt := 4) dX9_checkOf_24 (by decide) ?_
      exact ih2
  refine z_iconst dX9_checkOf_0 ?_
  refine g_istore_n dX9_checkOf_1 rfl (Nat.le_of_ble_eq_true rfl) ?_
  refine z_iconst dX9_checkOf_2 ?_
  refine g_istore_n dX9_checkOf_3 rfl (Nat.le_of_ble_eq_true rfl) ?_
  exact loop xs.length 0 (Nat.zero_le _) (by omega)
set_option maxHeartbeats 1000000 in
theorem r_log {M : pM} {z : Nat} {v : Int} (hv : 1 ≤ v ∧ v < 2147483648) : CR I_X9_log yX9_log [vI v] M z (some (vI (lgf v))) := by
  refine C.intro (pl := [some (vI v), none, none, none, none, none]) pn_X9 rfl (fun h => absurd h (by decide)) rfl (Nat.le_of_ble_eq_true rfl) rfl ?_
  obtain ⟨n, rfl⟩ : ∃ n : Nat, v = n := ⟨v.toNat, by omega⟩
  have e : lgf (n : Int) = lgz n := by unfold lgf; rw [if_neg (by omega)]
  rw [e]
  have hb := log2_b (v := n) (by omega)
  have hl := log2_le (v := n) (by omega)
  have loop2 : ∀ (i : Nat) (x s : Int) , i ≤ 16 → 1073741824 ≤ x ∧ x < 2147483648 → ∀ K : Int, G I_X9_log 0 0 (fun M' z' r' => M' = M ∧ z' = z ∧ r' = some (vI (lgI i x s))) 0 0 34 [some (vI (n : Int)), some (vI K), some (vL x), none, some (vI s), some (vI ((i : Int) - 1))] [] M z := by
    intro i
    induction i with
    | zero =>
      intro x s hi hx K
      refine g_iload dX9_log_34 rfl ?_
      refine z_if_lt (tgt := 75) dX9_log_36 (by decide) (by omega) (fun c36 => ?_) (fun c36 => absurd c36 (by omega))
      refine g_iload dX9_log_75 rfl ?_
      exact g_ireturn dX9_log_77 rfl (Nat.le_of_ble_eq_true rfl) (Nat.le_of_ble_eq_true rfl) ⟨rfl, rfl, rfl⟩
    | succ i ih =>
      intro x s hi hx K
      have hs := lgx_step hx
      have e30 : (2 : Int) ^ 30 = 1073741824 := by decide
      rw [lgI]
      have e0 : (((i + 1 : Nat) : Int) - 1) = (i : Int) := by omega
      rw [e0]
      refine g_iload dX9_log_34 rfl ?_
      refine z_if_lt (tgt := 75) dX9_log_36 (by decide) (by omega) (fun c36 => absurd c36 (by omega)) (fun c36 => ?_)
      refine g_lload_n dX9_log_39 rfl ?_
      refine g_lload_n dX9_log_40 rfl ?_
      refine z_lmul dX9_log_41 ?_
      refine z_bipush dX9_log_42 (by decide +kernel) ?_
      refine g_lshr dX9_log_44 ?_
      refine G.top (v' := vL (x * x / 1073741824)) (by rw [show iZ 30 = iZ ((30 : Nat) : Int) from rfl, lZ_shr (s := 30) (by omega) (by omega), e30]) ?_
      refine g_lstore_n dX9_log_45 rfl (Nat.le_of_ble_eq_true rfl) ?_
      refine g_lload_n dX9_log_46 rfl ?_
      refine z_ldc2 (2147483648) dX9_log_47 kc_X9_89 rfl ?_
      refine z_lcmp dX9_log_50 (by omega) (by omega) (fun c50 => ?_) (fun c50 => ?_) (fun c50 => ?_)
      · refine z_if_lt (tgt := 69) dX9_log_51 (by decide) (by decide) (fun q => absurd q (by decide)) (fun _ => ?_)
        refine g_lload_n dX9_log_54 rfl ?_
        refine z_ldc2 (2) dX9_log_55 kc_X9_91 rfl ?_
        refine z_ldiv dX9_log_58 (by omega) (by omega) ?_
        refine g_lstore_n dX9_log_59 rfl (Nat.le_of_ble_eq_true rfl) ?_
        refine g_iload dX9_log_60 rfl ?_
        refine z_iconst dX9_log_62 ?_
        refine g_iload dX9_log_63 rfl ?_
        refine g_ishl dX9_log_65 ?_
        refine G.top (v' := vI (2 ^ i)) (by rw [iZ_shl 1 (by omega), Int.one_mul]) ?_
        refine z_iadd dX9_log_66 ?_
        refine g_istore dX9_log_67 (Nat.le_of_ble_eq_true rfl) ?_
        refine z_iinc dX9_log_69 rfl (Nat.le_of_ble_eq_true rfl) ?_
        refine g_goto (tgt := 34) dX9_log_72 (by decide) ?_
        first
        | (rw [if_pos (by omega)]; exact ih (x * x / 1073741824 / 2) (s + 2 ^ i) (by omega) (by omega) K)
        | (rw [if_neg (by omega)]; exact ih (x * x / 1073741824) s (by omega) (by omega) K)
      · refine z_if_lt (tgt := 69) dX9_log_51 (by decide) (by decide) (fun q => absurd q (by decide)) (fun _ => ?_)
        refine g_lload_n dX9_log_54 rfl ?_
        refine z_ldc2 (2) dX9_log_55 kc_X9_91 rfl ?_
        refine z_ldiv dX9_log_58 (by omega) (by omega) ?_
        refine g_lstore_n dX9_log_59 rfl (Nat.le_of_ble_eq_true rfl) ?_
        refine g_iload dX9_log_60 rfl ?_
        refine z_iconst dX9_log_62 ?_
        refine g_iload dX9_log_63 rfl ?_
        refine g_ishl dX9_log_65 ?_
        refine G.top (v' := vI (2 ^ i)) (by rw [iZ_shl 1 (by omega), Int.one_mul]) ?_
        refine z_iadd dX9_log_66 ?_
        refine g_istore dX9_log_67 (Nat.le_of_ble_eq_true rfl) ?_
        refine z_iinc dX9_log_69 rfl (Nat.le_of_ble_eq_true rfl) ?_
        refine g_goto (tgt := 34) dX9_log_72 (by decide) ?_
        first
        | (rw [if_pos (by omega)]; exact ih (x * x / 1073741824 / 2) (s + 2 ^ i) (by omega) (by omega) K)
        | (rw [if_neg (by omega)]; exact ih (x * x / 1073741824) s (by omega) (by omega) K)
      · refine z_if_lt (tgt := 69) dX9_log_51 (by decide) (by decide) (fun _ => ?_) (fun q => absurd q (by decide))
        refine z_iinc dX9_log_69 rfl (Nat.le_of_ble_eq_true rfl) ?_
        refine g_goto (tgt := 34) dX9_log_72 (by decide) ?_
        first
        | (rw [if_pos (by omega)]; exact ih (x * x / 1073741824 / 2) (s + 2 ^ i) (by omega) (by omega) K)
        | (rw [if_neg (by omega)]; exact ih (x * x / 1073741824) s (by omega) (by omega) K)
  have loop1 : ∀ (m k : Nat), k ≤ Nat.log2 n → Nat.log2 n - k = m → G I_X9_log 0 0 (fun M' z' r' => M' = M ∧ z' = z ∧ r' = some (vI (lgz n))) 0 0 2 [some (vI (n : Int)), some (vI (k : Int)), none, none, none, none] [] M z := by
    have tail : G I_X9_log 0 0 (fun M' z' r' => M' = M ∧ z' = z ∧ r' = some (vI (lgz n))) 0 0 16 [some (vI (n : Int)), some (vI (Nat.log2 n : Int)), none, none, none, none] [] M z := by
      have hp : 2 ^ Nat.log2 n * 2 ^ (30 - Nat.log2 n) = 1073741824 := by rw [← Nat.pow_add, show Nat.log2 n + (30 - Nat.log2 n) = 30 by omega]
      have hp2 : 2 ^ (Nat.log2 n + 1) * 2 ^ (30 - Nat.log2 n) = 2147483648 := by rw [← Nat.pow_add, show Nat.log2 n + 1 + (30 - Nat.log2 n) = 31 by omega]
      have hx1 : 1073741824 ≤ n * 2 ^ (30 - Nat.log2 n) := by rw [← hp]; exact Nat.mul_le_mul_right _ hb.1
      have hx2 : n * 2 ^ (30 - Nat.log2 n) < 2147483648 := by rw [← hp2]; exact Nat.mul_lt_mul_of_pos_right hb.2 (Nat.pow_pos (by decide))
      have ex : ((n : Int) * 2 ^ (30 - Nat.log2 n)) = ((n * 2 ^ (30 - Nat.log2 n) : Nat) : Int) := by push_cast; rfl
      have e2 : ((30 : Int) - (Nat.log2 n : Int)) = ((30 - Nat.log2 n : Nat) : Int) := by omega
      refine g_iload_n dX9_log_16 rfl ?_
      refine z_i2l dX9_log_17 (by omega) ?_
      refine z_bipush dX9_log_18 (by decide +kernel) ?_
      refine g_iload_n dX9_log_20 rfl ?_
      refine z_isub dX9_log_21 ?_
      refine g_lshl dX9_log_22 ?_
      refine G.top (v' := vL ((n : Int) * 2 ^ (30 - Nat.log2 n))) (by rw [e2, lZ_shl (n : Int) (by omega)]) ?_
      refine g_lstore_n dX9_log_23 rfl (Nat.le_of_ble_eq_true rfl) ?_
      refine z_ldc (65536) dX9_log_24 kc_X9_88 rfl ?_
      refine g_iload_n dX9_log_26 rfl ?_
      refine z_imul dX9_log_27 ?_
      refine g_istore dX9_log_28 (Nat.le_of_ble_eq_true rfl) ?_
      refine z_bipush dX9_log_30 (by decide +kernel) ?_
      refine g_istore dX9_log_32 (Nat.le_of_ble_eq_true rfl) ?_
      exact loop2 16 _ _ (by omega) (by rw [Int.toNat_natCast, ex]; omega) _
    intro m
    induction m with
    | zero =>
      intro k hk hm
      have ek : k = Nat.log2 n := by omega
      subst ek
      have hd : (n : Int) / 2 ^ (Nat.log2 n + 1) = 0 := Int.ediv_eq_zero_of_lt (by omega) (by have := hb.2; exact_mod_cast this)
      refine g_iload_n dX9_log_2 rfl ?_
      refine g_iload_n dX9_log_3 rfl ?_
      refine z_iconst dX9_log_4 ?_
      refine z_iadd dX9_log_5 ?_
      refine g_ishr dX9_log_6 ?_
      refine G.top (v' := vI (0)) (by rw [show ((Nat.log2 n : Int) + 1) = ((Nat.log2 n + 1 : Nat) : Int) by omega, iZ_shr (by omega) (by omega), hd]) ?_
      refine z_if_le (tgt := 16) dX9_log_7 (by decide) (by omega) (fun c7 => ?_) (fun c7 => absurd c7 (by omega))
      exact tail
    | succ m ih =>
      intro k hk hm
      have hd : 0 < (n : Int) / 2 ^ (k + 1) := by
        have h2 : 2 ^ (k + 1) ≤ n := Nat.le_trans (Nat.pow_le_pow_right (by decide) (by omega)) hb.1
        have h3 : 0 < n / 2 ^ (k + 1) := Nat.div_pos h2 (Nat.pow_pos (by decide))
        have h4 : ((n : Int) / 2 ^ (k + 1)) = ((n / 2 ^ (k + 1) : Nat) : Int) := by push_cast; rfl
        omega
      have hd2 : (n : Int) / 2 ^ (k + 1) ≤ n := Int.ediv_le_self _ (by omega)
      refine g_iload_n dX9_log_2 rfl ?_
      refine g_iload_n dX9_log_3 rfl ?_
      refine z_iconst dX9_log_4 ?_
      refine z_iadd dX9_log_5 ?_
      refine g_ishr dX9_log_6 ?_
      refine G.top (v' := vI ((n : Int) / 2 ^ (k + 1))) (by rw [show ((k : Int) + 1) = ((k + 1 : Nat) : Int) by omega, iZ_shr (by omega) (by omega)]) ?_
      refine z_if_le (tgt := 16) dX9_log_7 (by decide) (by omega) (fun c7 => absurd c7 (by omega)) (fun c7 => ?_)
      refine z_iinc dX9_log_10 rfl (Nat.le_of_ble_eq_true rfl) ?_
      refine g_goto (tgt := 2) dX9_log_13 (by decide) ?_
      exact ih (k + 1) (by omega) (by omega)
  refine z_iconst dX9_log_0 ?_
  refine g_istore_n dX9_log_1 rfl (Nat.le_of_ble_eq_true rfl) ?_
  exact loop1 (Nat.log2 n) 0 (Nat.zero_le _) (by omega)
