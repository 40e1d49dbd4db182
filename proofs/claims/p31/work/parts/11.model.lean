/-! the class Model: a table of contexts: a key, and a count for each of 96 symbols -/
abbrev tbl : Type := List (Int × (Nat → Int))
def sm (c : Nat → Int) : Nat → Int
  | 0 => 0
  | n + 1 => sm c n + c n
def wt (c : Nat → Int) : Int := sm c 96
def kn (c : Nat → Int) : Int := sm (fun s => if 0 < c s then 1 else 0) 96
theorem sm_cong {c d : Nat → Int} : ∀ {n : Nat}, (∀ s, s < n → c s = d s) → sm c n = sm d n
  | 0, _ => rfl
  | n + 1, h => by rw [sm, sm, sm_cong (fun s hs => h s (by omega)), h n (by omega)]
theorem sm_nn {c : Nat → Int} : ∀ {n : Nat}, (∀ s, s < n → 0 ≤ c s) → 0 ≤ sm c n
  | 0, _ => by simp [sm]
  | n + 1, h => by rw [sm]; have := sm_nn (n := n) (fun s hs => h s (by omega)); have := h n (by omega); omega
theorem sm_mono {c : Nat → Int} : ∀ {n m : Nat}, m ≤ n → (∀ s, s < n → 0 ≤ c s) → sm c m ≤ sm c n
  | 0, m, hm, _ => by rw [show m = 0 by omega]; exact Int.le_refl _
  | n + 1, m, hm, h => by
    by_cases e : m = n + 1
    · rw [e]; exact Int.le_refl _
    · rw [sm]; have := sm_mono (n := n) (m := m) (by omega) (fun s hs => h s (by omega)); have := h n (by omega); omega
theorem sm_le {c : Nat → Int} {n s : Nat} (hs : s < n) (h : ∀ s, s < n → 0 ≤ c s) : c s ≤ sm c n := by
  have h1 := sm_mono (c := c) (n := n) (m := s + 1) (by omega) h
  have h2 := sm_nn (c := c) (n := s) (fun x hx => h x (by omega))
  rw [sm] at h1
  omega
theorem sm_up {c : Nat → Int} {s : Nat} {v : Int} : ∀ {n : Nat}, s < n → sm (upZ c s v) n = sm c n - c s + v
  | 0, h => by omega
  | n + 1, h => by
    rw [sm, sm]
    by_cases e : s = n
    · subst e
      rw [upZ_s, sm_cong (c := upZ c s v) (d := c) (fun x hx => upZ_n (by omega))]; omega
    · rw [sm_up (by omega), upZ_n (by omega)]; omega
theorem sm_half {c : Nat → Int} : ∀ {n : Nat}, 2 * sm (fun s => (c s + 1) / 2) n ≤ sm c n + n
  | 0 => by simp [sm]
  | n + 1 => by rw [sm, sm]; have := sm_half (c := c) (n := n); push_cast; omega
theorem sm_01 {p : Nat → Int} (h : ∀ s, p s = 0 ∨ p s = 1) : ∀ {n : Nat}, 0 ≤ sm p n ∧ sm p n ≤ n
  | 0 => by simp [sm]
  | n + 1 => by rw [sm]; have := sm_01 h (n := n); have := h n; push_cast; omega
theorem kn_01 (c : Nat → Int) (s : Nat) : (fun s => if 0 < c s then (1 : Int) else 0) s = 0 ∨ (fun s => if 0 < c s then (1 : Int) else 0) s = 1 := by
  show (if 0 < c s then (1 : Int) else 0) = 0 ∨ (if 0 < c s then (1 : Int) else 0) = 1
  split
  · exact Or.inr rfl
  · exact Or.inl rfl
theorem kn_rng (c : Nat → Int) : 0 ≤ kn c ∧ kn c ≤ 96 := by have := sm_01 (kn_01 c) (n := 96); unfold kn; omega
def okE (e : Int × (Nat → Int)) : Prop := (0 ≤ e.1 ∧ e.1 < 2147483648) ∧ (∀ s, s < 96 → 0 ≤ e.2 s) ∧ wt e.2 ≤ 1010
theorem okE.cnt {e : Int × (Nat → Int)} (h : okE e) {s : Nat} (hs : s < 96) : 0 ≤ e.2 s ∧ e.2 s ≤ 1010 := ⟨h.2.1 s hs, by have := sm_le hs h.2.1; have := h.2.2; unfold wt at this; omega⟩
def Md (M : pM) (mo : Nat) (t : tbl) : Prop := ∃ gk gw gn gc : Nat → Int, M mo = some (ob 4 [vI t.length, .ref (mo + 1), .ref (mo + 2), .ref (mo + 3), .ref (mo + 4)]) ∧ M (mo + 1) = some (arI 250 gk) ∧ M (mo + 2) = some (arI 250 gw) ∧ M (mo + 3) = some (arI 250 gn) ∧ M (mo + 4) = some (arI 24000 gc) ∧ t.length ≤ 250 ∧ (∀ e ∈ t, okE e) ∧ ∀ (i : Nat) (h : i < t.length), gk i = t[i].1 ∧ gw i = wt t[i].2 ∧ gn i = kn t[i].2 ∧ ∀ s, s < 96 → gc (i * 96 + s) = t[i].2 s
theorem Md.obj {M : pM} {mo : Nat} {t : tbl} (h : Md M mo t) : M mo = some (ob 4 [vI t.length, .ref (mo + 1), .ref (mo + 2), .ref (mo + 3), .ref (mo + 4)]) := by obtain ⟨gk, gw, gn, gc, h1, -⟩ := h; exact h1
theorem Md.len {M : pM} {mo : Nat} {t : tbl} (h : Md M mo t) : t.length ≤ 250 := by obtain ⟨gk, gw, gn, gc, h1, h2, h3, h4, h5, h6, -⟩ := h; exact h6
theorem Md.ok {M : pM} {mo : Nat} {t : tbl} (h : Md M mo t) : ∀ e ∈ t, okE e := by obtain ⟨gk, gw, gn, gc, h1, h2, h3, h4, h5, h6, h7, -⟩ := h; exact h7
theorem Md.off {M M' : pM} {mo lo hi : Nat} {t : tbl} (h : Md M mo t) (ho : Off M M' lo hi) (hd : mo + 5 ≤ lo ∨ hi ≤ mo) : Md M' mo t := by
  obtain ⟨gk, gw, gn, gc, h1, h2, h3, h4, h5, h6⟩ := h
  exact ⟨gk, gw, gn, gc, (ho _ (by omega)).trans h1, (ho _ (by omega)).trans h2, (ho _ (by omega)).trans h3, (ho _ (by omega)).trans h4, (ho _ (by omega)).trans h5, h6⟩
def fnd (t : tbl) (k : Int) : Int := match t.findIdx? (fun e => decide (e.1 = k)) with
  | some i => i
  | none => -1
theorem fnd_at {t : tbl} {k : Int} {i : Nat} (h : i < t.length) (he : t[i].1 = k) (hn : ∀ (j : Nat) (hj : j < i), (t[j]'(by omega)).1 ≠ k) : fnd t k = i := by
  unfold fnd
  rw [List.findIdx?_eq_some_iff_getElem.mpr ⟨h, by simpa using he, fun j hj => by simpa using hn j hj⟩]
theorem fnd_no {t : tbl} {k : Int} (hn : ∀ (j : Nat) (hj : j < t.length), t[j].1 ≠ k) : fnd t k = -1 := by
  unfold fnd
  rw [List.findIdx?_eq_none_iff.mpr (fun e he => by
    obtain ⟨j, hj, rfl⟩ := List.getElem_of_mem he
    simpa using hn j hj)]
theorem fnd_cases (t : tbl) (k : Int) : (fnd t k = -1 ∧ ∀ (j : Nat) (hj : j < t.length), t[j].1 ≠ k) ∨ ∃ (i : Nat) (h : i < t.length), fnd t k = i ∧ t[i].1 = k := by
  unfold fnd
  cases hf : t.findIdx? (fun e => decide (e.1 = k)) with
  | none =>
    refine Or.inl ⟨rfl, fun j hj e => ?_⟩
    have := List.findIdx?_eq_none_iff.mp hf _ (List.getElem_mem hj)
    simp at this
    exact this e
  | some i =>
    obtain ⟨h1, h2, -⟩ := List.findIdx?_eq_some_iff_getElem.mp hf
    exact Or.inr ⟨i, h1, rfl, by simpa using h2⟩
/-- the row of a key, met if there is room -/
def met (t : tbl) (k : Int) : tbl × Int := if 0 ≤ fnd t k ∨ 250 ≤ t.length then (t, fnd t k) else (t ++ [(k, fun _ => 0)], t.length)
/-- a count grows; halving, if the weight passes the limit -/
def grw (c : Nat → Int) (s : Nat) (step limit : Int) : Nat → Int := if wt (upZ c s (c s + step)) > limit then fun x => (upZ c s (c s + step) x + 1) / 2 else upZ c s (c s + step)
def rse (t : tbl) (i s : Nat) (step limit : Int) : tbl := match t[i]? with
  | some e => t.set i (e.1, grw e.2 s step limit)
  | none => t
set_option maxHeartbeats 1000000 in
theorem Md_clear {M : pM} {z mo : Nat} {t : tbl} (h : Md M mo t) : CW I_X4_clear yX4_clear [.ref mo] M z (fun M' r => r = none ∧ Md M' mo [] ∧ Off M M' mo (mo + 5)) := by
  obtain ⟨gk, gw, gn, gc, m_o, m_k, m_w, m_n, m_c, hlen, hok, hg⟩ := id h
  have fr : Off M M mo (mo + 5) := Off.rf
  refine C.intro (pl := [some (.ref mo)]) pn_X4 rfl (fun h => absurd h (by decide)) rfl (Nat.le_of_ble_eq_true rfl) rfl ?_
  refine g_aload_n dX4_clear_0 rfl ?_
  refine z_iconst dX4_clear_1 ?_
  refine z_putf fl_X4_24 dX4_clear_2 m_o rfl (Nat.le_of_ble_eq_true rfl) rfl rfl (fun M m_o o => ?_)
  have m_k := (o _ (by omega)).trans m_k
  have m_w := (o _ (by omega)).trans m_w
  have m_n := (o _ (by omega)).trans m_n
  have m_c := (o _ (by omega)).trans m_c
  have fr := fr.one o (by omega)
  exact g_return dX4_clear_5 rfl (Nat.le_of_ble_eq_true rfl) (Nat.le_of_ble_eq_true rfl) ⟨rfl, rfl, ⟨gk, gw, gn, gc, m_o, m_k, m_w, m_n, m_c, by simp, by simp, fun i hi => by simp at hi⟩, fr⟩
set_option maxHeartbeats 1000000 in
theorem Md_find {M : pM} {z mo : Nat} {t : tbl} {k : Int} (h : Md M mo t) (hk : -2147483648 ≤ k ∧ k < 2147483648) : CR I_X4_find yX4_find [.ref mo, vI k] M z (some (vI (fnd t k))) := by
  obtain ⟨gk, gw, gn, gc, m_o, m_k, m_w, m_n, m_c, hlen, hok, hg⟩ := id h
  refine C.intro (pl := [some (.ref mo), some (vI k), none]) pn_X4 rfl (fun h => absurd h (by decide)) rfl (Nat.le_of_ble_eq_true rfl) rfl ?_
  have loop : ∀ (n i : Nat), i ≤ t.length → t.length - i = n → (∀ (j : Nat) (hj : j < t.length), j < i → t[j].1 ≠ k) → G I_X4_find 0 0 (fun M' z' r' => M' = M ∧ z' = z ∧ r' = some (vI (fnd t k))) 0 0 2 [some (.ref mo), some (vI k), some (vI (i : Int))] [] M z := by
    intro n
    induction n with
    | zero =>
      intro i hi hn hj
      refine g_iload_n dX4_find_2 rfl ?_
      refine g_aload_n dX4_find_3 rfl ?_
      refine z_getf fl_X4_24 dX4_find_4 m_o rfl ?_
      refine z_icmp_ge (tgt := 37) dX4_find_7 (by decide) (by omega) (by omega) (fun c7 => ?_) (fun c7 => absurd c7 (by omega))
      refine z_iconst dX4_find_37 ?_
      exact g_ireturn dX4_find_38 rfl (Nat.le_of_ble_eq_true rfl) (Nat.le_of_ble_eq_true rfl) ⟨rfl, rfl, by rw [fnd_no (fun j h => hj j h (by omega))]⟩
    | succ n ih =>
      intro i hi hn hj
      have hi2 : i < t.length := by omega
      have hb := (hok _ (List.getElem_mem hi2)).1
      have hgi := (hg i hi2).1
      refine g_iload_n dX4_find_2 rfl ?_
      refine g_aload_n dX4_find_3 rfl ?_
      refine z_getf fl_X4_24 dX4_find_4 m_o rfl ?_
      refine z_icmp_ge (tgt := 37) dX4_find_7 (by decide) (by omega) (by omega) (fun c7 => absurd c7 (by omega)) (fun c7 => ?_)
      refine g_iload_n dX4_find_10 rfl ?_
      refine g_aload_n dX4_find_11 rfl ?_
      refine z_getf fl_X4_9 dX4_find_12 m_o rfl ?_
      refine z_alenI dX4_find_15 m_k ?_
      refine z_icmp_ge (tgt := 37) dX4_find_16 (by decide) (by omega) (by omega) (fun c16 => absurd c16 (by omega)) (fun c16 => ?_)
      refine g_aload_n dX4_find_19 rfl ?_
      refine z_getf fl_X4_9 dX4_find_20 m_o rfl ?_
      refine g_iload_n dX4_find_23 rfl ?_
      refine z_iaload (j := i) dX4_find_24 m_k (by omega) (by omega) (by omega) ?_
      refine g_iload_n dX4_find_25 rfl ?_
      refine z_icmp_ne (tgt := 31) dX4_find_26 (by decide) (by omega) (by omega) (fun c26 => ?_) (fun c26 => ?_)
      · refine z_iinc dX4_find_31 rfl (Nat.le_of_ble_eq_true rfl) ?_
        refine g_goto (tgt := 2) dX4_find_34 (by decide) ?_
        exact ih (i + 1) (by omega) (by omega) (fun j h1 h2 => by
          by_cases e : j = i
          · subst e; rw [← hgi]; exact c26
          · exact hj j h1 (by omega))
      · refine g_iload_n dX4_find_29 rfl ?_
        exact g_ireturn dX4_find_30 rfl (Nat.le_of_ble_eq_true rfl) (Nat.le_of_ble_eq_true rfl) ⟨rfl, rfl, by rw [fnd_at hi2 (hgi.symm.trans c26) (fun j h2 => hj j (by omega) h2)]⟩
  refine z_iconst dX4_find_0 ?_
  refine g_istore_n dX4_find_1 rfl (Nat.le_of_ble_eq_true rfl) ?_
  exact loop t.length 0 (Nat.zero_le _) (by omega) (fun j _ h => absurd h (Nat.not_lt_zero _))
set_option maxHeartbeats 1000000 in
theorem Md_has {M : pM} {z mo i : Nat} {t : tbl} (h : Md M mo t) (hi : i < t.length) : CR I_X4_has yX4_has [.ref mo, vI (i : Int)] M z (some (vI 1)) := by
  obtain ⟨gk, gw, gn, gc, m_o, m_k, m_w, m_n, m_c, hlen, hok, hg⟩ := id h
  refine C.intro (pl := [some (.ref mo), some (vI (i : Int))]) pn_X4 rfl (fun h => absurd h (by decide)) rfl (Nat.le_of_ble_eq_true rfl) rfl ?_
  refine g_iload_n dX4_has_0 rfl ?_
  refine z_if_lt (tgt := 23) dX4_has_1 (by decide) (by omega) (fun c1 => absurd c1 (by omega)) (fun c1 => ?_)
  refine g_iload_n dX4_has_4 rfl ?_
  refine g_aload_n dX4_has_5 rfl ?_
  refine z_getf fl_X4_24 dX4_has_6 m_o rfl ?_
  refine z_icmp_ge (tgt := 23) dX4_has_9 (by decide) (by omega) (by omega) (fun c9 => absurd c9 (by omega)) (fun c9 => ?_)
  refine g_iload_n dX4_has_12 rfl ?_
  refine z_sipush dX4_has_13 (by decide +kernel) ?_
  refine z_icmp_ge (tgt := 23) dX4_has_16 (by decide) (by omega) (by omega) (fun c16 => absurd c16 (by omega)) (fun c16 => ?_)
  refine z_iconst dX4_has_19 ?_
  refine g_goto (tgt := 24) dX4_has_20 (by decide) ?_
  exact g_zreturn dX4_has_24 rfl (by first | rfl | decide) (Nat.le_of_ble_eq_true rfl) (Nat.le_of_ble_eq_true rfl) ⟨rfl, rfl, rfl⟩
set_option maxHeartbeats 1000000 in
theorem Md_countIn {M : pM} {z mo i s : Nat} {t : tbl} (h : Md M mo t) (hi : i < t.length) (hs : s < 96) : CR I_X4_countIn yX4_countIn [.ref mo, vI (i : Int), vI (s : Int)] M z (some (vI (t[i].2 s))) := by
  obtain ⟨gk, gw, gn, gc, m_o, m_k, m_w, m_n, m_c, hlen, hok, hg⟩ := id h
  refine C.intro (pl := [some (.ref mo), some (vI (i : Int)), some (vI (s : Int)), none]) pn_X4 rfl (fun h => absurd h (by decide)) rfl (Nat.le_of_ble_eq_true rfl) rfl ?_
  refine g_iload_n dX4_countIn_0 rfl ?_
  refine z_if_lt (tgt := 33) dX4_countIn_1 (by decide) (by omega) (fun c1 => absurd c1 (by omega)) (fun c1 => ?_)
  refine g_iload_n dX4_countIn_4 rfl ?_
  refine g_aload_n dX4_countIn_5 rfl ?_
  refine z_getf fl_X4_24 dX4_countIn_6 m_o rfl ?_
  refine z_icmp_ge (tgt := 33) dX4_countIn_9 (by decide) (by omega) (by omega) (fun c9 => absurd c9 (by omega)) (fun c9 => ?_)
  refine g_iload_n dX4_countIn_12 rfl ?_
  refine z_sipush dX4_countIn_13 (by decide +kernel) ?_
  refine z_icmp_ge (tgt := 33) dX4_countIn_16 (by decide) (by omega) (by omega) (fun c16 => absurd c16 (by omega)) (fun c16 => ?_)
  refine g_iload_n dX4_countIn_19 rfl ?_
  refine z_if_lt (tgt := 33) dX4_countIn_20 (by decide) (by omega) (fun c20 => absurd c20 (by omega)) (fun c20 => ?_)
  refine g_iload_n dX4_countIn_23 rfl ?_
  refine z_bipush dX4_countIn_24 (by decide +kernel) ?_
  refine z_icmp_ge (tgt := 33) dX4_countIn_26 (by decide) (by omega) (by omega) (fun c26 => absurd c26 (by omega)) (fun c26 => ?_)
  refine z_iconst dX4_countIn_29 ?_
  refine g_goto (tgt := 34) dX4_countIn_30 (by decide) ?_
  refine g_istore_n dX4_countIn_34 rfl (Nat.le_of_ble_eq_true rfl) ?_
  refine g_iload_n dX4_countIn_35 rfl ?_
  refine z_if_eq (tgt := 53) dX4_countIn_36 (by decide) (by omega) (fun c36 => absurd c36 (by omega)) (fun c36 => ?_)
  refine g_aload_n dX4_countIn_39 rfl ?_
  refine z_getf fl_X4_21 dX4_countIn_40 m_o rfl ?_
  refine g_iload_n dX4_countIn_43 rfl ?_
  refine z_bipush dX4_countIn_44 (by decide +kernel) ?_
  refine z_imul dX4_countIn_46 ?_
  refine g_iload_n dX4_countIn_47 rfl ?_
  refine z_iadd dX4_countIn_48 ?_
  refine z_iaload (j := i * 96 + s) dX4_countIn_49 m_c (by omega) (by omega) (by omega) ?_
  refine g_goto (tgt := 54) dX4_countIn_50 (by decide) ?_
  exact g_ireturn dX4_countIn_54 rfl (Nat.le_of_ble_eq_true rfl) (Nat.le_of_ble_eq_true rfl) ⟨rfl, rfl, by rw [(hg i hi).2.2.2 s hs]⟩
set_option maxHeartbeats 1000000 in
theorem Md_weightOf {M : pM} {z mo i : Nat} {t : tbl} (h : Md M mo t) (hi : i < t.length) : CR I_X4_weightOf yX4_weightOf [.ref mo, vI (i : Int)] M z (some (vI (wt t[i].2))) := by
  obtain ⟨gk, gw, gn, gc, m_o, m_k, m_w, m_n, m_c, hlen, hok, hg⟩ := id h
  refine C.intro (pl := [some (.ref mo), some (vI (i : Int))]) pn_X4 rfl (fun h => absurd h (by decide)) rfl (Nat.le_of_ble_eq_true rfl) rfl ?_
  refine g_aload_n dX4_weightOf_0 rfl ?_
  refine g_iload_n dX4_weightOf_1 rfl ?_
  refine z_callVR dX4_weightOf_2 lm_X4_47 lk_X4_has (Md_has h hi) rfl rfl m_o rfl (mkRoom rfl rfl) (Nat.le_of_ble_eq_true rfl) (Nat.le_of_ble_eq_true rfl) (Nat.le_of_ble_eq_true rfl) ?_
  refine z_if_eq (tgt := 17) dX4_weightOf_5 (by decide) (by omega) (fun c5 => absurd c5 (by omega)) (fun c5 => ?_)
  refine g_aload_n dX4_weightOf_8 rfl ?_
  refine z_getf fl_X4_15 dX4_weightOf_9 m_o rfl ?_
  refine g_iload_n dX4_weightOf_12 rfl ?_
  refine z_iaload (j := i) dX4_weightOf_13 m_w (by omega) (by omega) (by omega) ?_
  refine g_goto (tgt := 18) dX4_weightOf_14 (by decide) ?_
  exact g_ireturn dX4_weightOf_18 rfl (Nat.le_of_ble_eq_true rfl) (Nat.le_of_ble_eq_true rfl) ⟨rfl, rfl, by rw [(hg i hi).2.1]⟩
set_option maxHeartbeats 1000000 in
theorem Md_knownIn {M : pM} {z mo i : Nat} {t : tbl} (h : Md M mo t) (hi : i < t.length) : CR I_X4_knownIn yX4_knownIn [.ref mo, vI (i : Int)] M z (some (vI (kn t[i].2))) := by
  obtain ⟨gk, gw, gn, gc, m_o, m_k, m_w, m_n, m_c, hlen, hok, hg⟩ := id h
  refine C.intro (pl := [some (.ref mo), some (vI (i : Int))]) pn_X4 rfl (fun h => absurd h (by decide)) rfl (Nat.le_of_ble_eq_true rfl) rfl ?_
  refine g_aload_n dX4_knownIn_0 rfl ?_
  refine g_iload_n dX4_knownIn_1 rfl ?_
  refine z_callVR dX4_knownIn_2 lm_X4_47 lk_X4_has (Md_has h hi) rfl rfl m_o rfl (mkRoom rfl rfl) (Nat.le_of_ble_eq_true rfl) (Nat.le_of_ble_eq_true rfl) (Nat.le_of_ble_eq_true rfl) ?_
  refine z_if_eq (tgt := 17) dX4_knownIn_5 (by decide) (by omega) (fun c5 => absurd c5 (by omega)) (fun c5 => ?_)
  refine g_aload_n dX4_knownIn_8 rfl ?_
  refine z_getf fl_X4_18 dX4_knownIn_9 m_o rfl ?_
  refine g_iload_n dX4_knownIn_12 rfl ?_
  refine z_iaload (j := i) dX4_knownIn_13 m_n (by omega) (by omega) (by omega) ?_
  refine g_goto (tgt := 18) dX4_knownIn_14 (by decide) ?_
  exact g_ireturn dX4_knownIn_18 rfl (Nat.le_of_ble_eq_true rfl) (Nat.le_of_ble_eq_true rfl) ⟨rfl, rfl, by rw [(hg i hi).2.2.1]⟩
set_option maxHeartbeats 1000000 in
theorem Md_halve {M : pM} {z mo i : Nat} {t : tbl} (h : Md M mo t) (hi : i < t.length) : CW I_X4_halve yX4_halve [.ref mo, vI (i : Int)] M z (fun M' r => r = none ∧ Md M' mo (t.set i (t[i].1, fun x => (t[i].2 x + 1) / 2)) ∧ Off M M' mo (mo + 5)) := by
  obtain ⟨gk, gw, gn, gc, m_o, m_k, m_w, m_n, m_c, hlen, hok, hg⟩ := id h
  refine C.intro (pl := [some (.ref mo), some (vI (i : Int)), none, none]) pn_X4 rfl (fun h => absurd h (by decide)) rfl (Nat.le_of_ble_eq_true rfl) rfl ?_
  have hoki := hok _ (List.getElem_mem hi)
  have loop : ∀ (n s : Nat) (M1 : pM) (g : Nat → Int), s ≤ 96 → 96 - s = n → Off M M1 mo (mo + 5) → M1 mo = some (ob 4 [vI t.length, .ref (mo + 1), .ref (mo + 2), .ref (mo + 3), .ref (mo + 4)]) → M1 (mo + 1) = some (arI 250 gk) → M1 (mo + 2) = some (arI 250 gw) → M1 (mo + 3) = some (arI 250 gn) → M1 (mo + 4) = some (arI 24000 g) → (∀ x, g x = if i * 96 ≤ x ∧ x < i * 96 + s then (gc x + 1) / 2 else gc x) → G I_X4_halve 0 0 (fun M' z' r' => z' = z ∧ r' = none ∧ Md M' mo (t.set i (t[i].1, fun x => (t[i].2 x + 1) / 2)) ∧ Off M M' mo (mo + 5)) 0 0 7 [some (.ref mo), some (vI (i : Int)), some (vI (sm (fun x => (t[i].2 x + 1) / 2) s)), some (vI ((i * 96 + s : Nat) : Int))] [] M1 z := by
    intro n
    induction n with
    | zero =>
      intro s M g hs hn fr m_o m_k m_w m_n m_c hgx
      have hs2 : s = 96 := by omega
      subst hs2
      refine g_iload_n dX4_halve_7 rfl ?_
      refine g_iload_n dX4_halve_8 rfl ?_
      refine z_iconst dX4_halve_9 ?_
      refine z_iadd dX4_halve_10 ?_
      refine z_bipush dX4_halve_11 (by decide +kernel) ?_
      refine z_imul dX4_halve_13 ?_
      refine z_icmp_ge (tgt := 48) dX4_halve_14 (by decide) (by omega) (by omega) (fun c14 => ?_) (fun c14 => absurd c14 (by omega))
      refine g_aload_n dX4_halve_48 rfl ?_
      refine z_getf fl_X4_15 dX4_halve_49 m_o rfl ?_
      refine g_iload_n dX4_halve_52 rfl ?_
      refine g_iload_n dX4_halve_53 rfl ?_
      refine z_iastore (j := i) dX4_halve_54 m_w (by omega) (by omega) (by omega) (fun M m_w o => ?_)
      have m_o := (o _ (by omega)).trans m_o
      have m_k := (o _ (by omega)).trans m_k
      have m_n := (o _ (by omega)).trans m_n
      have m_c := (o _ (by omega)).trans m_c
      have fr := fr.one o (by omega)
      refine g_return dX4_halve_55 rfl (Nat.le_of_ble_eq_true rfl) (Nat.le_of_ble_eq_true rfl) ⟨rfl, rfl, ⟨gk, upZ gw i (sm (fun x => (t[i].2 x + 1) / 2) 96), gn, g, by rw [List.length_set]; exact m_o, m_k, m_w, m_n, m_c, by rw [List.length_set]; exact hlen, fun e he => ?_, fun j hj => ?_⟩, fr⟩
      · rcases List.mem_or_eq_of_mem_set he with he | rfl
        · exact hok e he
        · refine ⟨hoki.1, fun x hx => ?_, ?_⟩
          · have := hoki.2.1 x hx
            show 0 ≤ (t[i].2 x + 1) / 2
            omega
          · have h1 := sm_half (c := t[i].2) (n := 96)
            have h2 := hoki.2.2
            unfold wt at h2 ⊢
            show sm (fun x => (t[i].2 x + 1) / 2) 96 ≤ 1010
            omega
      · rw [List.length_set] at hj
        rw [List.getElem_set]
        by_cases e : i = j
        · subst e
          rw [if_pos rfl]
          refine ⟨(hg i hi).1, by rw [upZ_s]; rfl, ?_, fun x hx => ?_⟩
          · rw [(hg i hi).2.2.1]
            unfold kn
            refine sm_cong (fun x hx => ?_)
            have := hoki.2.1 x hx
            show (if 0 < t[i].2 x then (1 : Int) else 0) = if 0 < (t[i].2 x + 1) / 2 then 1 else 0
            by_cases hz : 0 < t[i].2 x
            · rw [if_pos hz, if_pos (by omega)]
            · rw [if_neg hz, if_neg (by omega)]
          · rw [hgx, if_pos (by omega), (hg i hi).2.2.2 x hx]
        · rw [if_neg e]
          refine ⟨(hg j hj).1, by rw [upZ_n (Ne.symm e)]; exact (hg j hj).2.1, (hg j hj).2.2.1, fun x hx => ?_⟩
          rw [hgx, if_neg (by omega)]; exact (hg j hj).2.2.2 x hx
    | succ n ih =>
      intro s M g hs hn fr m_o m_k m_w m_n m_c hgx
      have hs2 : s < 96 := by omega
      have hc1 := hoki.cnt hs2
      have hc2 := (hg i hi).2.2.2 s hs2
      have hgs : g (i * 96 + s) = t[i].2 s := by rw [hgx, if_neg (by omega)]; exact hc2
      have hsum := sm_half (c := t[i].2) (n := s)
      refine g_iload_n dX4_halve_7 rfl ?_
      refine g_iload_n dX4_halve_8 rfl ?_
      refine z_iconst dX4_halve_9 ?_
      refine z_iadd dX4_halve_10 ?_
      refine z_bipush dX4_halve_11 (by decide +kernel) ?_
      refine z_imul dX4_halve_13 ?_
      refine z_icmp_ge (tgt := 48) dX4_halve_14 (by decide) (by omega) (by omega) (fun c14 => absurd c14 (by omega)) (fun c14 => ?_)
      refine g_aload_n dX4_halve_17 rfl ?_
      refine z_getf fl_X4_21 dX4_halve_18 m_o rfl ?_
      refine g_iload_n dX4_halve_21 rfl ?_
      refine g_aload_n dX4_halve_22 rfl ?_
      refine z_getf fl_X4_21 dX4_halve_23 m_o rfl ?_
      refine g_iload_n dX4_halve_26 rfl ?_
      refine z_iaload (j := i * 96 + s) dX4_halve_27 m_c (by omega) (by omega) (by omega) ?_
      refine z_iconst dX4_halve_28 ?_
      refine z_iadd dX4_halve_29 ?_
      refine z_iconst dX4_halve_30 ?_
      refine z_idiv dX4_halve_31 (by rw [hgs]; omega) (by omega) ?_
      refine z_iastore (j := i * 96 + s) dX4_halve_32 m_c (by omega) (by omega) (by omega) (fun M m_c o => ?_)
      have m_o := (o _ (by omega)).trans m_o
      have m_k := (o _ (by omega)).trans m_k
      have m_w := (o _ (by omega)).trans m_w
      have m_n := (o _ (by omega)).trans m_n
      have fr := fr.one o (by omega)
      refine g_iload_n dX4_halve_33 rfl ?_
      refine g_aload_n dX4_halve_34 rfl ?_
      refine z_getf fl_X4_21 dX4_halve_35 m_o rfl ?_
      refine g_iload_n dX4_halve_38 rfl ?_
      refine z_iaload (j := i * 96 + s) dX4_halve_39 m_c (by omega) (by omega) (by omega) ?_
      refine z_iadd dX4_halve_40 ?_
      refine g_istore_n dX4_halve_41 rfl (Nat.le_of_ble_eq_true rfl) ?_
      refine z_iinc dX4_halve_42 rfl (Nat.le_of_ble_eq_true rfl) ?_
      refine g_goto (tgt := 7) dX4_halve_45 (by decide) ?_
      have e1 : sm (fun x => (t[i].2 x + 1) / 2) s + upZ g (i * 96 + s) ((g (i * 96 + s) + 1) / 2) (i * 96 + s) = sm (fun x => (t[i].2 x + 1) / 2) (s + 1) := by rw [upZ_s, hgs]; rfl
      rw [e1]
      refine ih (s + 1) M _ (by omega) (by omega) fr m_o m_k m_w m_n m_c (fun x => ?_)
      by_cases hx : x = i * 96 + s
      · subst hx; rw [upZ_s, if_pos (by omega), hgs, hc2]
      · rw [upZ_n hx, hgx]
        by_cases hy : i * 96 ≤ x ∧ x < i * 96 + s
        · rw [if_pos hy, if_pos (by omega)]
        · rw [if_neg hy, if_neg (by omega)]
  refine z_iconst dX4_halve_0 ?_
  refine g_istore_n dX4_halve_1 rfl (Nat.le_of_ble_eq_true rfl) ?_
  refine g_iload_n dX4_halve_2 rfl ?_
  refine z_bipush dX4_halve_3 (by decide +kernel) ?_
  refine z_imul dX4_halve_5 ?_
  refine g_istore_n dX4_halve_6 rfl (Nat.le_of_ble_eq_true rfl) ?_
  exact loop 96 0 M gc (Nat.zero_le _) rfl Off.rf m_o m_k m_w m_n m_c (fun x => by rw [if_neg (by omega)])
