/-! the class Candidates: which of 96 symbols are excluded -/
def fi (p : Nat → Bool) (n : Nat) : Int := match (List.range n).find? p with
  | some i => i
  | none => -1
theorem fi_at {p : Nat → Bool} {n i : Nat} (h : i < n) (hp : p i = true) (hn : ∀ j, j < i → p j = false) : fi p n = i := by
  have e : (List.range n).find? p = some i := by
    rw [List.find?_range_eq_some]
    exact ⟨hp, by simpa using h, fun j hj => by simp [hn j hj]⟩
  unfold fi
  rw [e]
theorem fi_no {p : Nat → Bool} {n : Nat} (hn : ∀ j, j < n → p j = false) : fi p n = -1 := by
  have e : (List.range n).find? p = none := List.find?_eq_none.mpr (fun x hx => by simp [hn x (List.mem_range.mp hx)])
  unfold fi
  rw [e]
/-- the sum of the counts that are not excluded, of the symbols below n; how many are not excluded -/
def smx (ex : Nat → Bool) (c : Nat → Int) (n : Nat) : Int := sm (fun s => if ex s then 0 else c s) n
def cnx (ex : Nat → Bool) (n : Nat) : Int := sm (fun s => if ex s then 0 else 1) n
theorem smx_s (ex : Nat → Bool) (c : Nat → Int) (n : Nat) : smx ex c (n + 1) = smx ex c n + if ex n then 0 else c n := rfl
theorem cnx_s (ex : Nat → Bool) (n : Nat) : cnx ex (n + 1) = cnx ex n + if ex n then 0 else 1 := rfl
theorem cnx_rng (ex : Nat → Bool) (n : Nat) : 0 ≤ cnx ex n ∧ cnx ex n ≤ n := sm_01 (p := fun s => if ex s then 0 else 1) (fun s => by
  show (if ex s = true then (0 : Int) else 1) = 0 ∨ (if ex s = true then (0 : Int) else 1) = 1
  split
  · exact Or.inl rfl
  · exact Or.inr rfl)
theorem smx_le {ex : Nat → Bool} {c : Nat → Int} : ∀ {n : Nat}, (∀ s, s < n → 0 ≤ c s) → 0 ≤ smx ex c n ∧ smx ex c n ≤ sm c n
  | 0, _ => by simp [smx, sm]
  | n + 1, h => by
    have h1 := smx_le (ex := ex) (c := c) (n := n) (fun s hs => h s (by omega))
    have h2 := h n (by omega)
    rw [smx_s, sm]
    split <;> omega
theorem smx_rng {ex : Nat → Bool} {e : Int × (Nat → Int)} (h : okE e) {n : Nat} (hn : n ≤ 96) : 0 ≤ smx ex e.2 n ∧ smx ex e.2 n ≤ 1010 := by
  have h1 := smx_le (ex := ex) (c := e.2) (n := n) (fun s hs => h.2.1 s (by omega))
  have h2 := sm_mono (c := e.2) (n := 96) (m := n) hn h.2.1
  have h3 := h.2.2
  unfold wt at h3
  omega
def Ca (M : pM) (ca : Nat) (ex : Nat → Bool) : Prop := ∃ (u : Int) (g : Nat → Int), M ca = some (ob 0 [.ref (ca + 1), vI u]) ∧ M (ca + 1) = some (arZ 96 g) ∧ (u = 0 ∨ u = 1) ∧ (u = 1 → ∀ s, s < 96 → ex s = false) ∧ ∀ s, s < 96 → g s = if ex s then 1 else 0
theorem Ca.obj {M : pM} {ca : Nat} {ex : Nat → Bool} (h : Ca M ca ex) : ∃ u : Int, M ca = some (ob 0 [.ref (ca + 1), vI u]) := by obtain ⟨u, g, h1, -⟩ := h; exact ⟨u, h1⟩
theorem Ca.off {M M' : pM} {ca lo hi : Nat} {ex : Nat → Bool} (h : Ca M ca ex) (ho : Off M M' lo hi) (hd : ca + 2 ≤ lo ∨ hi ≤ ca) : Ca M' ca ex := by
  obtain ⟨u, g, h1, h2, h3⟩ := h
  exact ⟨u, g, (ho _ (by omega)).trans h1, (ho _ (by omega)).trans h2, h3⟩
set_option maxHeartbeats 1000000 in
theorem Ca_restart {M : pM} {z ca : Nat} {ex : Nat → Bool} (h : Ca M ca ex) : CW I_X0_restart yX0_restart [.ref ca] M z (fun M' r => r = none ∧ Ca M' ca (fun _ => false) ∧ Off M M' ca (ca + 2)) := by
  obtain ⟨u, g, m_q, m_a, hu, hue, hg⟩ := id h
  have fr : Off M M ca (ca + 2) := Off.rf
  refine C.intro (pl := [some (.ref ca), none]) pn_X0 rfl (fun h => absurd h (by decide)) rfl (Nat.le_of_ble_eq_true rfl) rfl ?_
  have loop : ∀ (n i : Nat) (M1 : pM) (g1 : Nat → Int), i ≤ 96 → 96 - i = n → Off M M1 ca (ca + 2) → M1 ca = some (ob 0 [.ref (ca + 1), vI u]) → M1 (ca + 1) = some (arZ 96 g1) → (∀ s, s < 96 → (s < i ∨ u = 1) → g1 s = 0) → G I_X0_restart 0 0 (fun M' z' r' => z' = z ∧ r' = none ∧ Ca M' ca (fun _ => false) ∧ Off M M' ca (ca + 2)) 0 0 2 [some (.ref ca), some (vI (i : Int))] [] M1 z := by
    intro n
    induction n with
    | zero =>
      intro i M g hi hn fr m_q m_a hz
      refine g_iload_n dX0_restart_2 rfl ?_
      refine g_aload_n dX0_restart_3 rfl ?_
      refine z_getf fl_X0_9 dX0_restart_4 m_q rfl ?_
      refine z_alenZ dX0_restart_7 m_a ?_
      refine z_icmp_ge (tgt := 31) dX0_restart_8 (by decide) (by omega) (by omega) (fun c8 => ?_) (fun c8 => absurd c8 (by omega))
      refine g_aload_n dX0_restart_31 rfl ?_
      refine z_iconst dX0_restart_32 ?_
      refine z_putf fl_X0_15 dX0_restart_33 m_q rfl (Nat.le_of_ble_eq_true rfl) rfl rfl (fun M m_q o => ?_)
      have m_a := (o _ (by omega)).trans m_a
      have fr := fr.one o (by omega)
      exact g_return dX0_restart_36 rfl (Nat.le_of_ble_eq_true rfl) (Nat.le_of_ble_eq_true rfl) ⟨rfl, rfl, ⟨1, g, m_q, m_a, Or.inr rfl, fun _ _ _ => rfl, fun s hs => hz s hs (by omega)⟩, fr⟩
    | succ n ih =>
      intro i M g hi hn fr m_q m_a hz
      refine g_iload_n dX0_restart_2 rfl ?_
      refine g_aload_n dX0_restart_3 rfl ?_
      refine z_getf fl_X0_9 dX0_restart_4 m_q rfl ?_
      refine z_alenZ dX0_restart_7 m_a ?_
      refine z_icmp_ge (tgt := 31) dX0_restart_8 (by decide) (by omega) (by omega) (fun c8 => absurd c8 (by omega)) (fun c8 => ?_)
      refine g_aload_n dX0_restart_11 rfl ?_
      refine z_getf fl_X0_15 dX0_restart_12 m_q rfl ?_
      refine z_if_ne (tgt := 31) dX0_restart_15 (by decide) (by omega) (fun c15 => ?_) (fun c15 => ?_)
      · refine g_aload_n dX0_restart_31 rfl ?_
        refine z_iconst dX0_restart_32 ?_
        refine z_putf fl_X0_15 dX0_restart_33 m_q rfl (Nat.le_of_ble_eq_true rfl) rfl rfl (fun M m_q o => ?_)
        have m_a := (o _ (by omega)).trans m_a
        have fr := fr.one o (by omega)
        exact g_return dX0_restart_36 rfl (Nat.le_of_ble_eq_true rfl) (Nat.le_of_ble_eq_true rfl) ⟨rfl, rfl, ⟨1, g, m_q, m_a, Or.inr rfl, fun _ _ _ => rfl, fun s hs => hz s hs (by omega)⟩, fr⟩
      · refine g_aload_n dX0_restart_18 rfl ?_
        refine z_getf fl_X0_9 dX0_restart_19 m_q rfl ?_
        refine g_iload_n dX0_restart_22 rfl ?_
        refine z_iconst dX0_restart_23 ?_
        refine z_bastore (j := i) dX0_restart_24 m_a (by omega) (by omega) (by omega) (by omega) (fun M m_a o => ?_)
        have m_q := (o _ (by omega)).trans m_q
        have fr := fr.one o (by omega)
        refine z_iinc dX0_restart_25 rfl (Nat.le_of_ble_eq_true rfl) ?_
        refine g_goto (tgt := 2) dX0_restart_28 (by decide) ?_
        exact ih (i + 1) M _ (by omega) (by omega) fr m_q m_a (fun s hs hh => by
          by_cases e : s = i
          · subst e; rw [upZ_s]
          · rw [upZ_n e]; exact hz s hs (by omega))
  refine z_iconst dX0_restart_0 ?_
  refine g_istore_n dX0_restart_1 rfl (Nat.le_of_ble_eq_true rfl) ?_
  exact loop 96 0 M g (Nat.zero_le _) rfl fr m_q m_a (fun s hs hh => by rw [hg s hs, hue (by omega) s hs]; rfl)
set_option maxHeartbeats 1000000 in
theorem Ca_remains {M : pM} {z ca s : Nat} {ex : Nat → Bool} (h : Ca M ca ex) (hs : s < 96) : CR I_X0_remains yX0_remains [.ref ca, vI (s : Int)] M z (some (vI (if ex s then 0 else 1))) := by
  obtain ⟨u, g, m_q, m_a, hu, hue, hg⟩ := id h
  have hgs := hg s hs
  refine C.intro (pl := [some (.ref ca), some (vI (s : Int))]) pn_X0 rfl (fun h => absurd h (by decide)) rfl (Nat.le_of_ble_eq_true rfl) rfl ?_
  by_cases he : ex s = true
  · rw [if_pos he] at hgs
    refine g_iload_n dX0_remains_0 rfl ?_
    refine z_if_lt (tgt := 26) dX0_remains_1 (by decide) (by omega) (fun c1 => absurd c1 (by omega)) (fun c1 => ?_)
    refine g_iload_n dX0_remains_4 rfl ?_
    refine g_aload_n dX0_remains_5 rfl ?_
    refine z_getf fl_X0_9 dX0_remains_6 m_q rfl ?_
    refine z_alenZ dX0_remains_9 m_a ?_
    refine z_icmp_ge (tgt := 26) dX0_remains_10 (by decide) (by omega) (by omega) (fun c10 => absurd c10 (by omega)) (fun c10 => ?_)
    refine g_aload_n dX0_remains_13 rfl ?_
    refine z_getf fl_X0_9 dX0_remains_14 m_q rfl ?_
    refine g_iload_n dX0_remains_17 rfl ?_
    refine z_baload (j := s) dX0_remains_18 m_a (by omega) (by omega) (by omega) ?_
    refine z_if_ne (tgt := 26) dX0_remains_19 (by decide) (by omega) (fun c19 => ?_) (fun c19 => absurd c19 (by omega))
    refine z_iconst dX0_remains_26 ?_
    exact g_zreturn dX0_remains_27 rfl (by first | rfl | decide) (Nat.le_of_ble_eq_true rfl) (Nat.le_of_ble_eq_true rfl) ⟨rfl, rfl, by rw [if_pos he]⟩
  · rw [if_neg he] at hgs
    refine g_iload_n dX0_remains_0 rfl ?_
    refine z_if_lt (tgt := 26) dX0_remains_1 (by decide) (by omega) (fun c1 => absurd c1 (by omega)) (fun c1 => ?_)
    refine g_iload_n dX0_remains_4 rfl ?_
    refine g_aload_n dX0_remains_5 rfl ?_
    refine z_getf fl_X0_9 dX0_remains_6 m_q rfl ?_
    refine z_alenZ dX0_remains_9 m_a ?_
    refine z_icmp_ge (tgt := 26) dX0_remains_10 (by decide) (by omega) (by omega) (fun c10 => absurd c10 (by omega)) (fun c10 => ?_)
    refine g_aload_n dX0_remains_13 rfl ?_
    refine z_getf fl_X0_9 dX0_remains_14 m_q rfl ?_
    refine g_iload_n dX0_remains_17 rfl ?_
    refine z_baload (j := s) dX0_remains_18 m_a (by omega) (by omega) (by omega) ?_
    refine z_if_ne (tgt := 26) dX0_remains_19 (by decide) (by omega) (fun c19 => absurd c19 (by omega)) (fun c19 => ?_)
    refine z_iconst dX0_remains_22 ?_
    refine g_goto (tgt := 27) dX0_remains_23 (by decide) ?_
    exact g_zreturn dX0_remains_27 rfl (by first | rfl | decide) (Nat.le_of_ble_eq_true rfl) (Nat.le_of_ble_eq_true rfl) ⟨rfl, rfl, by rw [if_neg he]⟩
theorem Ca_remains_t {M : pM} {z ca s : Nat} {ex : Nat → Bool} (h : Ca M ca ex) (hs : s < 96) (he : ex s = false) : CR I_X0_remains yX0_remains [.ref ca, vI (s : Int)] M z (some (vI 1)) := (Ca_remains h hs).eq (by rw [he]; rfl)
theorem Ca_remains_f {M : pM} {z ca s : Nat} {ex : Nat → Bool} (h : Ca M ca ex) (hs : s < 96) (he : ex s = true) : CR I_X0_remains yX0_remains [.ref ca, vI (s : Int)] M z (some (vI 0)) := (Ca_remains h hs).eq (by rw [he]; rfl)
set_option maxHeartbeats 1000000 in
theorem Ca_holds {M : pM} {z ca mo i s : Nat} {ex : Nat → Bool} {t : tbl} (h : Ca M ca ex) (hm : Md M mo t) (hi : i < t.length) (hs : s < 96) : CR I_X0_holds yX0_holds [.ref ca, .ref mo, vI (i : Int), vI (s : Int)] M z (some (vI (if ex s = false ∧ 0 < t[i].2 s then 1 else 0))) := by
  obtain ⟨u, g, m_q, m_a, hu, hue, hg⟩ := id h
  have m_o := hm.obj
  have hok := hm.ok _ (List.getElem_mem hi)
  have hc := hok.cnt hs
  refine C.intro (pl := [some (.ref ca), some (.ref mo), some (vI (i : Int)), some (vI (s : Int))]) pn_X0 rfl (fun h => absurd h (by decide)) rfl (Nat.le_of_ble_eq_true rfl) rfl ?_
  by_cases he : ex s = true
  · refine g_aload_n dX0_holds_0 rfl ?_
    refine g_iload_n dX0_holds_1 rfl ?_
    refine z_callVR dX0_holds_2 lm_X0_19 lk_X0_remains (Ca_remains_f h (by omega) he) rfl rfl m_q rfl (mkRoom rfl rfl) (Nat.le_of_ble_eq_true rfl) (Nat.le_of_ble_eq_true rfl) (Nat.le_of_ble_eq_true rfl) ?_
    refine z_if_eq (tgt := 21) dX0_holds_5 (by decide) (by omega) (fun c5 => ?_) (fun c5 => absurd c5 (by omega))
    refine z_iconst dX0_holds_21 ?_
    exact g_zreturn dX0_holds_22 rfl (by first | rfl | decide) (Nat.le_of_ble_eq_true rfl) (Nat.le_of_ble_eq_true rfl) ⟨rfl, rfl, by first | (rw [if_pos ⟨by simpa using he, by omega⟩]) | (rw [if_neg (fun q => absurd q.2 (by omega))]) | (rw [if_neg (fun q => by rw [he] at q; exact absurd q.1 (by decide))])⟩
  · refine g_aload_n dX0_holds_0 rfl ?_
    refine g_iload_n dX0_holds_1 rfl ?_
    refine z_callVR dX0_holds_2 lm_X0_19 lk_X0_remains (Ca_remains_t h (by omega) (by simpa using he)) rfl rfl m_q rfl (mkRoom rfl rfl) (Nat.le_of_ble_eq_true rfl) (Nat.le_of_ble_eq_true rfl) (Nat.le_of_ble_eq_true rfl) ?_
    refine z_if_eq (tgt := 21) dX0_holds_5 (by decide) (by omega) (fun c5 => absurd c5 (by omega)) (fun c5 => ?_)
    refine g_aload_n dX0_holds_8 rfl ?_
    refine g_iload_n dX0_holds_9 rfl ?_
    refine g_iload_n dX0_holds_10 rfl ?_
    refine z_callVR dX0_holds_11 lm_X0_23 lk_X4_countIn (Md_countIn hm hi hs) rfl rfl m_o rfl (mkRoom rfl rfl) (Nat.le_of_ble_eq_true rfl) (Nat.le_of_ble_eq_true rfl) (Nat.le_of_ble_eq_true rfl) ?_
    refine z_if_le (tgt := 21) dX0_holds_14 (by decide) (by omega) (fun c14 => ?_) (fun c14 => ?_)
    · refine z_iconst dX0_holds_21 ?_
      exact g_zreturn dX0_holds_22 rfl (by first | rfl | decide) (Nat.le_of_ble_eq_true rfl) (Nat.le_of_ble_eq_true rfl) ⟨rfl, rfl, by first | (rw [if_pos ⟨by simpa using he, by omega⟩]) | (rw [if_neg (fun q => absurd q.2 (by omega))]) | (rw [if_neg (fun q => by rw [he] at q; exact absurd q.1 (by decide))])⟩
    · refine z_iconst dX0_holds_17 ?_
      refine g_goto (tgt := 22) dX0_holds_18 (by decide) ?_
      exact g_zreturn dX0_holds_22 rfl (by first | rfl | decide) (Nat.le_of_ble_eq_true rfl) (Nat.le_of_ble_eq_true rfl) ⟨rfl, rfl, by first | (rw [if_pos ⟨by simpa using he, by omega⟩]) | (rw [if_neg (fun q => absurd q.2 (by omega))]) | (rw [if_neg (fun q => by rw [he] at q; exact absurd q.1 (by decide))])⟩
set_option maxHeartbeats 1000000 in
theorem Ca_sumBelow {M : pM} {z ca mo i n : Nat} {ex : Nat → Bool} {t : tbl} (h : Ca M ca ex) (hm : Md M mo t) (hi : i < t.length) (hn : n ≤ 96) : CR I_X0_sumBelow yX0_sumBelow [.ref ca, .ref mo, vI (i : Int), vI (n : Int)] M z (some (vI (smx ex t[i].2 n))) := by
  obtain ⟨u, g, m_q, m_a, hu, hue, hg⟩ := id h
  have m_o := hm.obj
  have hok := hm.ok _ (List.getElem_mem hi)
  refine C.intro (pl := [some (.ref ca), some (.ref mo), some (vI (i : Int)), some (vI (n : Int)), none, none]) pn_X0 rfl (fun h => absurd h (by decide)) rfl (Nat.le_of_ble_eq_true rfl) rfl ?_
  have loop : ∀ (k s : Nat), s ≤ n → n - s = k → G I_X0_sumBelow 0 0 (fun M' z' r' => M' = M ∧ z' = z ∧ r' = some (vI (smx ex t[i].2 n))) 0 0 6 [some (.ref ca), some (.ref mo), some (vI (i : Int)), some (vI (n : Int)), some (vI (smx ex t[i].2 s)), some (vI (s : Int))] [] M z := by
    intro k
    induction k with
    | zero =>
      intro s hs hk
      have e : s = n := by omega
      subst e
      refine g_iload dX0_sumBelow_6 rfl ?_
      refine g_iload_n dX0_sumBelow_8 rfl ?_
      refine z_icmp_ge (tgt := 39) dX0_sumBelow_9 (by decide) (by omega) (by omega) (fun c9 => ?_) (fun c9 => absurd c9 (by omega))
      refine g_iload dX0_sumBelow_39 rfl ?_
      exact g_ireturn dX0_sumBelow_41 rfl (Nat.le_of_ble_eq_true rfl) (Nat.le_of_ble_eq_true rfl) ⟨rfl, rfl, rfl⟩
    | succ k ih =>
      intro s hs hk
      have ih2 := ih (s + 1) (by omega) (by omega)
      rw [smx_s] at ih2
      by_cases he : ex s = true
      · rw [if_pos he, Int.add_zero] at ih2
        refine g_iload dX0_sumBelow_6 rfl ?_
        refine g_iload_n dX0_sumBelow_8 rfl ?_
        refine z_icmp_ge (tgt := 39) dX0_sumBelow_9 (by decide) (by omega) (by omega) (fun c9 => absurd c9 (by omega)) (fun c9 => ?_)
        refine g_aload_n dX0_sumBelow_12 rfl ?_
        refine g_iload dX0_sumBelow_13 rfl ?_
        refine z_callVR dX0_sumBelow_15 lm_X0_19 lk_X0_remains (Ca_remains_f h (by omega) he) rfl rfl m_q rfl (mkRoom rfl rfl) (Nat.le_of_ble_eq_true rfl) (Nat.le_of_ble_eq_true rfl) (Nat.le_of_ble_eq_true rfl) ?_
        refine z_if_eq (tgt := 33) dX0_sumBelow_18 (by decide) (by omega) (fun c18 => ?_) (fun c18 => absurd c18 (by omega))
        refine z_iinc dX0_sumBelow_33 rfl (Nat.le_of_ble_eq_true rfl) ?_
        refine g_goto (tgt := 6) dX0_sumBelow_36 (by decide) ?_
        exact ih2
      · rw [if_neg he] at ih2
        refine g_iload dX0_sumBelow_6 rfl ?_
        refine g_iload_n dX0_sumBelow_8 rfl ?_
        refine z_icmp_ge (tgt := 39) dX0_sumBelow_9 (by decide) (by omega) (by omega) (fun c9 => absurd c9 (by omega)) (fun c9 => ?_)
        refine g_aload_n dX0_sumBelow_12 rfl ?_
        refine g_iload dX0_sumBelow_13 rfl ?_
        refine z_callVR dX0_sumBelow_15 lm_X0_19 lk_X0_remains (Ca_remains_t h (by omega) (by simpa using he)) rfl rfl m_q rfl (mkRoom rfl rfl) (Nat.le_of_ble_eq_true rfl) (Nat.le_of_ble_eq_true rfl) (Nat.le_of_ble_eq_true rfl) ?_
        refine z_if_eq (tgt := 33) dX0_sumBelow_18 (by decide) (by omega) (fun c18 => absurd c18 (by omega)) (fun c18 => ?_)
        refine g_iload dX0_sumBelow_21 rfl ?_
        refine g_aload_n dX0_sumBelow_23 rfl ?_
        refine g_iload_n dX0_sumBelow_24 rfl ?_
        refine g_iload dX0_sumBelow_25 rfl ?_
        refine z_callVR dX0_sumBelow_27 lm_X0_23 lk_X4_countIn (Md_countIn (s := s) hm hi (by omega)) rfl rfl m_o rfl (mkRoom rfl rfl) (Nat.le_of_ble_eq_true rfl) (Nat.le_of_ble_eq_true rfl) (Nat.le_of_ble_eq_true rfl) ?_
        refine z_iadd dX0_sumBelow_30 ?_
        refine g_istore dX0_sumBelow_31 (Nat.le_of_ble_eq_true rfl) ?_
        refine z_iinc dX0_sumBelow_33 rfl (Nat.le_of_ble_eq_true rfl) ?_
        refine g_goto (tgt := 6) dX0_sumBelow_36 (by decide) ?_
        exact ih2
  refine z_iconst dX0_sumBelow_0 ?_
  refine g_istore dX0_sumBelow_1 (Nat.le_of_ble_eq_true rfl) ?_
  refine z_iconst dX0_sumBelow_3 ?_
  refine g_istore dX0_sumBelow_4 (Nat.le_of_ble_eq_true rfl) ?_
  exact loop n 0 (Nat.zero_le _) (by omega)
set_option maxHeartbeats 1000000 in
theorem Ca_symbolAt {M : pM} {z ca mo i : Nat} {num : Int} {ex : Nat → Bool} {t : tbl} (h : Ca M ca ex) (hm : Md M mo t) (hi : i < t.length) (hn : -2147483648 ≤ num ∧ num < 2147483648) : CR I_X0_symbolAt yX0_symbolAt [.ref ca, .ref mo, vI (i : Int), vI num] M z (some (vI (fi (fun s => decide (num < smx ex t[i].2 (s + 1))) 96))) := by
  obtain ⟨u, g, m_q, m_a, hu, hue, hg⟩ := id h
  have m_o := hm.obj
  have hok := hm.ok _ (List.getElem_mem hi)
  refine C.intro (pl := [some (.ref ca), some (.ref mo), some (vI (i : Int)), some (vI num), none, none]) pn_X0 rfl (fun h => absurd h (by decide)) rfl (Nat.le_of_ble_eq_true rfl) rfl ?_
  have loop : ∀ (k s : Nat), s ≤ 96 → 96 - s = k → (∀ j, j < s → smx ex t[i].2 (j + 1) ≤ num) → G I_X0_symbolAt 0 0 (fun M' z' r' => M' = M ∧ z' = z ∧ r' = some (vI (fi (fun s => decide (num < smx ex t[i].2 (s + 1))) 96))) 0 0 6 [some (.ref ca), some (.ref mo), some (vI (i : Int)), some (vI num), some (vI (smx ex t[i].2 s)), some (vI (s : Int))] [] M z := by
    intro k
    induction k with
    | zero =>
      intro s hs hk hj
      have e : s = 96 := by omega
      subst e
      refine g_iload dX0_symbolAt_6 rfl ?_
      refine z_bipush dX0_symbolAt_8 (by decide +kernel) ?_
      refine z_icmp_ge (tgt := 49) dX0_symbolAt_10 (by decide) (by omega) (by omega) (fun c10 => ?_) (fun c10 => absurd c10 (by omega))
      refine z_iconst dX0_symbolAt_49 ?_
      exact g_ireturn dX0_symbolAt_50 rfl (Nat.le_of_ble_eq_true rfl) (Nat.le_of_ble_eq_true rfl) ⟨rfl, rfl, by rw [fi_no (fun j h => by have := hj j h; simp; omega)]⟩
    | succ k ih =>
      intro s hs hk hj
      have hs2 : s < 96 := by omega
      have hr := smx_rng (ex := ex) hok (n := s + 1) (by omega)
      have hx := smx_s ex t[i].2 s
      have fin : num < smx ex t[i].2 (s + 1) → fi (fun s => decide (num < smx ex t[i].2 (s + 1))) 96 = s := fun hl => fi_at hs2 (by simpa using hl) (fun j h => by have := hj j h; simp; omega)
      have ih2 : smx ex t[i].2 (s + 1) ≤ num → _ := fun hl => ih (s + 1) (by omega) (by omega) (fun j h => by
        by_cases e : j = s
        · subst e; exact hl
        · exact hj j (by omega))
      by_cases he : ex s = true
      · rw [if_pos he, Int.add_zero] at hx
        refine g_iload dX0_symbolAt_6 rfl ?_
        refine z_bipush dX0_symbolAt_8 (by decide +kernel) ?_
        refine z_icmp_ge (tgt := 49) dX0_symbolAt_10 (by decide) (by omega) (by omega) (fun c10 => absurd c10 (by omega)) (fun c10 => ?_)
        refine g_aload_n dX0_symbolAt_13 rfl ?_
        refine g_iload dX0_symbolAt_14 rfl ?_
        refine z_callVR dX0_symbolAt_16 lm_X0_19 lk_X0_remains (Ca_remains_f h (by omega) he) rfl rfl m_q rfl (mkRoom rfl rfl) (Nat.le_of_ble_eq_true rfl) (Nat.le_of_ble_eq_true rfl) (Nat.le_of_ble_eq_true rfl) ?_
        refine z_if_eq (tgt := 34) dX0_symbolAt_19 (by decide) (by omega) (fun c19 => ?_) (fun c19 => absurd c19 (by omega))
        refine g_iload dX0_symbolAt_34 rfl ?_
        refine g_iload_n dX0_symbolAt_36 rfl ?_
        refine z_icmp_le (tgt := 43) dX0_symbolAt_37 (by decide) (by omega) (by omega) (fun c37 => ?_) (fun c37 => ?_)
        · refine z_iinc dX0_symbolAt_43 rfl (Nat.le_of_ble_eq_true rfl) ?_
          refine g_goto (tgt := 6) dX0_symbolAt_46 (by decide) ?_
          refine (?_ : G _ _ _ _ _ _ _ _ _ _ _)
          have ih3 := ih2 (by omega)
          rw [hx] at ih3
          exact ih3
        · refine g_iload dX0_symbolAt_40 rfl ?_
          exact g_ireturn dX0_symbolAt_42 rfl (Nat.le_of_ble_eq_true rfl) (Nat.le_of_ble_eq_true rfl) ⟨rfl, rfl, by rw [fin (by omega)]⟩
      · rw [if_neg he] at hx
        refine g_iload dX0_symbolAt_6 rfl ?_
        refine z_bipush dX0_symbolAt_8 (by decide +kernel) ?_
        refine z_icmp_ge (tgt := 49) dX0_symbolAt_10 (by decide) (by omega) (by omega) (fun c10 => absurd c10 (by omega)) (fun c10 => ?_)
        refine g_aload_n dX0_symbolAt_13 rfl ?_
        refine g_iload dX0_symbolAt_14 rfl ?_
        refine z_callVR dX0_symbolAt_16 lm_X0_19 lk_X0_remains (Ca_remains_t h (by omega) (by simpa using he)) rfl rfl m_q rfl (mkRoom rfl rfl) (Nat.le_of_ble_eq_true rfl) (Nat.le_of_ble_eq_true rfl) (Nat.le_of_ble_eq_true rfl) ?_
        refine z_if_eq (tgt := 34) dX0_symbolAt_19 (by decide) (by omega) (fun c19 => absurd c19 (by omega)) (fun c19 => ?_)
        refine g_iload dX0_symbolAt_22 rfl ?_
        refine g_aload_n dX0_symbolAt_24 rfl ?_
        refine g_iload_n dX0_symbolAt_25 rfl ?_
        refine g_iload dX0_symbolAt_26 rfl ?_
        refine z_callVR dX0_symbolAt_28 lm_X0_23 lk_X4_countIn (Md_countIn (s := s) hm hi hs2) rfl rfl m_o rfl (mkRoom rfl rfl) (Nat.le_of_ble_eq_true rfl) (Nat.le_of_ble_eq_true rfl) (Nat.le_of_ble_eq_true rfl) ?_
        refine z_iadd dX0_symbolAt_31 ?_
        refine g_istore dX0_symbolAt_32 (Nat.le_of_ble_eq_true rfl) ?_
        refine g_iload dX0_symbolAt_34 rfl ?_
        refine g_iload_n dX0_symbolAt_36 rfl ?_
        refine z_icmp_le (tgt := 43) dX0_symbolAt_37 (by decide) (by omega) (by omega) (fun c37 => ?_) (fun c37 => ?_)
        · refine z_iinc dX0_symbolAt_43 rfl (Nat.le_of_ble_eq_true rfl) ?_
          refine g_goto (tgt := 6) dX0_symbolAt_46 (by decide) ?_
          refine (?_ : G _ _ _ _ _ _ _ _ _ _ _)
          have ih3 := ih2 (by omega)
          rw [hx] at ih3
          exact ih3
        · refine g_iload dX0_symbolAt_40 rfl ?_
          exact g_ireturn dX0_symbolAt_42 rfl (Nat.le_of_ble_eq_true rfl) (Nat.le_of_ble_eq_true rfl) ⟨rfl, rfl, by rw [fin (by omega)]⟩
  refine z_iconst dX0_symbolAt_0 ?_
  refine g_istore dX0_symbolAt_1 (Nat.le_of_ble_eq_true rfl) ?_
  refine z_iconst dX0_symbolAt_3 ?_
  refine g_istore dX0_symbolAt_4 (Nat.le_of_ble_eq_true rfl) ?_
  exact loop 96 0 (Nat.zero_le _) (by omega) (fun j h => absurd h (Nat.not_lt_zero _))
set_option maxHeartbeats 1000000 in
theorem Ca_remainingBelow {M : pM} {z ca n : Nat} {ex : Nat → Bool} (h : Ca M ca ex) (hn : n ≤ 96) : CR I_X0_remainingBelow yX0_remainingBelow [.ref ca, vI (n : Int)] M z (some (vI (cnx ex n))) := by
  obtain ⟨u, g, m_q, m_a, hu, hue, hg⟩ := id h
  refine C.intro (pl := [some (.ref ca), some (vI (n : Int)), none, none]) pn_X0 rfl (fun h => absurd h (by decide)) rfl (Nat.le_of_ble_eq_true rfl) rfl ?_
  have loop : ∀ (k s : Nat), s ≤ n → n - s = k → G I_X0_remainingBelow 0 0 (fun M' z' r' => M' = M ∧ z' = z ∧ r' = some (vI (cnx ex n))) 0 0 4 [some (.ref ca), some (vI (n : Int)), some (vI (cnx ex s)), some (vI (s : Int))] [] M z := by
    intro k
    induction k with
    | zero =>
      intro s hs hk
      have e : s = n := by omega
      subst e
      refine g_iload_n dX0_remainingBelow_4 rfl ?_
      refine g_iload_n dX0_remainingBelow_5 rfl ?_
      refine z_icmp_ge (tgt := 26) dX0_remainingBelow_6 (by decide) (by omega) (by omega) (fun c6 => ?_) (fun c6 => absurd c6 (by omega))
      refine g_iload_n dX0_remainingBelow_26 rfl ?_
      exact g_ireturn dX0_remainingBelow_27 rfl (Nat.le_of_ble_eq_true rfl) (Nat.le_of_ble_eq_true rfl) ⟨rfl, rfl, rfl⟩
    | succ k ih =>
      intro s hs hk
      have ih2 := ih (s + 1) (by omega) (by omega)
      rw [cnx_s] at ih2
      by_cases he : ex s = true
      · rw [if_pos he, Int.add_zero] at ih2
        refine g_iload_n dX0_remainingBelow_4 rfl ?_
        refine g_iload_n dX0_remainingBelow_5 rfl ?_
        refine z_icmp_ge (tgt := 26) dX0_remainingBelow_6 (by decide) (by omega) (by omega) (fun c6 => absurd c6 (by omega)) (fun c6 => ?_)
        refine g_aload_n dX0_remainingBelow_9 rfl ?_
        refine g_iload_n dX0_remainingBelow_10 rfl ?_
        refine z_callVR dX0_remainingBelow_11 lm_X0_19 lk_X0_remains (Ca_remains_f h (by omega) he) rfl rfl m_q rfl (mkRoom rfl rfl) (Nat.le_of_ble_eq_true rfl) (Nat.le_of_ble_eq_true rfl) (Nat.le_of_ble_eq_true rfl) ?_
        refine z_if_eq (tgt := 20) dX0_remainingBelow_14 (by decide) (by omega) (fun c14 => ?_) (fun c14 => absurd c14 (by omega))
        refine z_iinc dX0_remainingBelow_20 rfl (Nat.le_of_ble_eq_true rfl) ?_
        refine g_goto (tgt := 4) dX0_remainingBelow_23 (by decide) ?_
        exact ih2
      · rw [if_neg he] at ih2
        refine g_iload_n dX0_remainingBelow_4 rfl ?_
        refine g_iload_n dX0_remainingBelow_5 rfl ?_
        refine z_icmp_ge (tgt := 26) dX0_remainingBelow_6 (by decide) (by omega) (by omega) (fun c6 => absurd c6 (by omega)) (fun c6 => ?_)
        refine g_aload_n dX0_remainingBelow_9 rfl ?_
        refine g_iload_n dX0_remainingBelow_10 rfl ?_
        refine z_callVR dX0_remainingBelow_11 lm_X0_19 lk_X0_remains (Ca_remains_t h (by omega) (by simpa using he)) rfl rfl m_q rfl (mkRoom rfl rfl) (Nat.le_of_ble_eq_true rfl) (Nat.le_of_ble_eq_true rfl) (Nat.le_of_ble_eq_true rfl) ?_
        refine z_if_eq (tgt := 20) dX0_remainingBelow_14 (by decide) (by omega) (fun c14 => absurd c14 (by omega)) (fun c14 => ?_)
        refine z_iinc dX0_remainingBelow_17 rfl (Nat.le_of_ble_eq_true rfl) ?_
        refine z_iinc dX0_remainingBelow_20 rfl (Nat.le_of_ble_eq_true rfl) ?_
        refine g_goto (tgt := 4) dX0_remainingBelow_23 (by decide) ?_
        exact ih2
  refine z_iconst dX0_remainingBelow_0 ?_
  refine g_istore_n dX0_remainingBelow_1 rfl (Nat.le_of_ble_eq_true rfl) ?_
  refine z_iconst dX0_remainingBelow_2 ?_
  refine g_istore_n dX0_remainingBelow_3 rfl (Nat.le_of_ble_eq_true rfl) ?_
  exact loop n 0 (Nat.zero_le _) (by omega)
set_option maxHeartbeats 1000000 in
theorem Ca_remainingAt {M : pM} {z ca : Nat} {num : Int} {ex : Nat → Bool} (h : Ca M ca ex) (hn : -2147483648 ≤ num ∧ num < 2147483648) : CR I_X0_remainingAt yX0_remainingAt [.ref ca, vI num] M z (some (vI (fi (fun s => decide (num < cnx ex (s + 1))) 96))) := by
  obtain ⟨u, g, m_q, m_a, hu, hue, hg⟩ := id h
  refine C.intro (pl := [some (.ref ca), some (vI num), none, none]) pn_X0 rfl (fun h => absurd h (by decide)) rfl (Nat.le_of_ble_eq_true rfl) rfl ?_
  have loop : ∀ (k s : Nat), s ≤ 96 → 96 - s = k → (∀ j, j < s → cnx ex (j + 1) ≤ num) → G I_X0_remainingAt 0 0 (fun M' z' r' => M' = M ∧ z' = z ∧ r' = some (vI (fi (fun s => decide (num < cnx ex (s + 1))) 96))) 0 0 4 [some (.ref ca), some (vI num), some (vI (cnx ex s)), some (vI (s : Int))] [] M z := by
    intro k
    induction k with
    | zero =>
      intro s hs hk hj
      have e : s = 96 := by omega
      subst e
      refine g_iload_n dX0_remainingAt_4 rfl ?_
      refine z_bipush dX0_remainingAt_5 (by decide +kernel) ?_
      refine z_icmp_ge (tgt := 34) dX0_remainingAt_7 (by decide) (by omega) (by omega) (fun c7 => ?_) (fun c7 => absurd c7 (by omega))
      refine z_iconst dX0_remainingAt_34 ?_
      exact g_ireturn dX0_remainingAt_35 rfl (Nat.le_of_ble_eq_true rfl) (Nat.le_of_ble_eq_true rfl) ⟨rfl, rfl, by rw [fi_no (fun j h => by have := hj j h; simp; omega)]⟩
    | succ k ih =>
      intro s hs hk hj
      have hs2 : s < 96 := by omega
      have hr := cnx_rng ex (s + 1)
      have hx := cnx_s ex s
      have fin : num < cnx ex (s + 1) → fi (fun s => decide (num < cnx ex (s + 1))) 96 = s := fun hl => fi_at hs2 (by simpa using hl) (fun j h => by have := hj j h; simp; omega)
      have ih2 : cnx ex (s + 1) ≤ num → _ := fun hl => ih (s + 1) (by omega) (by omega) (fun j h => by
        by_cases e : j = s
        · subst e; exact hl
        · exact hj j (by omega))
      by_cases he : ex s = true
      · rw [if_pos he, Int.add_zero] at hx
        refine g_iload_n dX0_remainingAt_4 rfl ?_
        refine z_bipush dX0_remainingAt_5 (by decide +kernel) ?_
        refine z_icmp_ge (tgt := 34) dX0_remainingAt_7 (by decide) (by omega) (by omega) (fun c7 => absurd c7 (by omega)) (fun c7 => ?_)
        refine g_aload_n dX0_remainingAt_10 rfl ?_
        refine g_iload_n dX0_remainingAt_11 rfl ?_
        refine z_callVR dX0_remainingAt_12 lm_X0_19 lk_X0_remains (Ca_remains_f h (by omega) he) rfl rfl m_q rfl (mkRoom rfl rfl) (Nat.le_of_ble_eq_true rfl) (Nat.le_of_ble_eq_true rfl) (Nat.le_of_ble_eq_true rfl) ?_
        refine z_if_eq (tgt := 21) dX0_remainingAt_15 (by decide) (by omega) (fun c15 => ?_) (fun c15 => absurd c15 (by omega))
        refine g_iload_n dX0_remainingAt_21 rfl ?_
        refine g_iload_n dX0_remainingAt_22 rfl ?_
        refine z_icmp_le (tgt := 28) dX0_remainingAt_23 (by decide) (by omega) (by omega) (fun c23 => ?_) (fun c23 => ?_)
        · refine z_iinc dX0_remainingAt_28 rfl (Nat.le_of_ble_eq_true rfl) ?_
          refine g_goto (tgt := 4) dX0_remainingAt_31 (by decide) ?_
          refine (?_ : G _ _ _ _ _ _ _ _ _ _ _)
          have ih3 := ih2 (by omega)
          rw [hx] at ih3
          exact ih3
        · refine g_iload_n dX0_remainingAt_26 rfl ?_
          exact g_ireturn dX0_remainingAt_27 rfl (Nat.le_of_ble_eq_true rfl) (Nat.le_of_ble_eq_true rfl) ⟨rfl, rfl, by rw [fin (by omega)]⟩
      · rw [if_neg he] at hx
        refine g_iload_n dX0_remainingAt_4 rfl ?_
        refine z_bipush dX0_remainingAt_5 (by decide +kernel) ?_
        refine z_icmp_ge (tgt := 34) dX0_remainingAt_7 (by decide) (by omega) (by omega) (fun c7 => absurd c7 (by omega)) (fun c7 => ?_)
        refine g_aload_n dX0_remainingAt_10 rfl ?_
        refine g_iload_n dX0_remainingAt_11 rfl ?_
        refine z_callVR dX0_remainingAt_12 lm_X0_19 lk_X0_remains (Ca_remains_t h (by omega) (by simpa using he)) rfl rfl m_q rfl (mkRoom rfl rfl) (Nat.le_of_ble_eq_true rfl) (Nat.le_of_ble_eq_true rfl) (Nat.le_of_ble_eq_true rfl) ?_
        refine z_if_eq (tgt := 21) dX0_remainingAt_15 (by decide) (by omega) (fun c15 => absurd c15 (by omega)) (fun c15 => ?_)
        refine z_iinc dX0_remainingAt_18 rfl (Nat.le_of_ble_eq_true rfl) ?_
        refine g_iload_n dX0_remainingAt_21 rfl ?_
        refine g_iload_n dX0_remainingAt_22 rfl ?_
        refine z_icmp_le (tgt := 28) dX0_remainingAt_23 (by decide) (by omega) (by omega) (fun c23 => ?_) (fun c23 => ?_)
        · refine z_iinc dX0_remainingAt_28 rfl (Nat.le_of_ble_eq_true rfl) ?_
          refine g_goto (tgt := 4) dX0_remainingAt_31 (by decide) ?_
          refine (?_ : G _ _ _ _ _ _ _ _ _ _ _)
          have ih3 := ih2 (by omega)
          rw [hx] at ih3
          exact ih3
        · refine g_iload_n dX0_remainingAt_26 rfl ?_
          exact g_ireturn dX0_remainingAt_27 rfl (Nat.le_of_ble_eq_true rfl) (Nat.le_of_ble_eq_true rfl) ⟨rfl, rfl, by rw [fin (by omega)]⟩
  refine z_iconst dX0_remainingAt_0 ?_
  refine g_istore_n dX0_remainingAt_1 rfl (Nat.le_of_ble_eq_true rfl) ?_
  refine z_iconst dX0_remainingAt_2 ?_
  refine g_istore_n dX0_remainingAt_3 rfl (Nat.le_of_ble_eq_true rfl) ?_
  exact loop 96 0 (Nat.zero_le _) (by omega) (fun j h => absurd h (Nat.not_lt_zero _))
set_option maxHeartbeats 1000000 in
theorem Ca_sum {M : pM} {z ca mo i : Nat} {ex : Nat → Bool} {t : tbl} (h : Ca M ca ex) (hm : Md M mo t) (hi : i < t.length) : CR I_X0_sum yX0_sum [.ref ca, .ref mo, vI (i : Int)] M z (some (vI (smx ex t[i].2 96))) := by
  obtain ⟨u, g, m_q, m_a, hu, hue, hg⟩ := id h
  have m_o := hm.obj
  have hok := hm.ok _ (List.getElem_mem hi)
  refine C.intro (pl := [some (.ref ca), some (.ref mo), some (vI (i : Int))]) pn_X0 rfl (fun h => absurd h (by decide)) rfl (Nat.le_of_ble_eq_true rfl) rfl ?_
  refine g_aload_n dX0_sum_0 rfl ?_
  refine z_getf fl_X0_15 dX0_sum_1 m_q rfl ?_
  refine z_if_eq (tgt := 15) dX0_sum_4 (by decide) (by omega) (fun c4 => ?_) (fun c4 => ?_)
  · refine g_aload_n dX0_sum_15 rfl ?_
    refine g_aload_n dX0_sum_16 rfl ?_
    refine g_iload_n dX0_sum_17 rfl ?_
    refine z_bipush dX0_sum_18 (by decide +kernel) ?_
    refine z_callVR dX0_sum_20 lm_X0_33 lk_X0_sumBelow (Ca_sumBelow (n := 96) h hm hi (by omega)) rfl rfl m_q rfl (mkRoom rfl rfl) (Nat.le_of_ble_eq_true rfl) (Nat.le_of_ble_eq_true rfl) (Nat.le_of_ble_eq_true rfl) ?_
    exact g_ireturn dX0_sum_23 rfl (Nat.le_of_ble_eq_true rfl) (Nat.le_of_ble_eq_true rfl) ⟨rfl, rfl, by first | with_reducible rfl | (have e : smx ex t[i].2 96 = wt t[i].2 := sm_cong (fun s hs => by show (if ex s = true then 0 else t[i].2 s) = t[i].2 s; rw [hue (by omega) s hs]; rfl); rw [e])⟩
  · refine g_aload_n dX0_sum_7 rfl ?_
    refine g_iload_n dX0_sum_8 rfl ?_
    refine z_callVR dX0_sum_9 lm_X0_29 lk_X4_weightOf (Md_weightOf hm hi) rfl rfl m_o rfl (mkRoom rfl rfl) (Nat.le_of_ble_eq_true rfl) (Nat.le_of_ble_eq_true rfl) (Nat.le_of_ble_eq_true rfl) ?_
    refine g_goto (tgt := 23) dX0_sum_12 (by decide) ?_
    exact g_ireturn dX0_sum_23 rfl (Nat.le_of_ble_eq_true rfl) (Nat.le_of_ble_eq_true rfl) ⟨rfl, rfl, by first | with_reducible rfl | (have e : smx ex t[i].2 96 = wt t[i].2 := sm_cong (fun s hs => by show (if ex s = true then 0 else t[i].2 s) = t[i].2 s; rw [hue (by omega) s hs]; rfl); rw [e])⟩
set_option maxHeartbeats 1000000 in
theorem Ca_leave {M : pM} {z ca mo st i : Nat} {ex : Nat → Bool} {t : tbl} {v0 v1 v2 v3 : Int} {r1 r2 r3 : Value} (h : Ca M ca ex) (hm : Md M mo t) (m_s : M st = some (ob 7 [vI v0, vI v1, vI v2, vI v3, .ref mo, r1, r2, r3])) (hv : v1 = 0 ∨ v1 = 1) (hi : i < t.length) (hd : mo + 5 ≤ ca ∨ ca + 2 ≤ mo) (hd2 : st < ca ∨ ca + 2 ≤ st) : CW I_X0_leave yX0_leave [.ref ca, .ref st, vI (i : Int)] M z (fun M' r => r = none ∧ Ca M' ca (if v1 = 1 then fun s => ex s || decide (0 < t[i].2 s) else ex) ∧ Off M M' ca (ca + 2)) := by
  obtain ⟨u, g, m_q, m_a, hu, hue, hg⟩ := id h
  have m_o := hm.obj
  have hok := hm.ok _ (List.getElem_mem hi)
  have fr : Off M M ca (ca + 2) := Off.rf
  refine C.intro (pl := [some (.ref ca), some (.ref st), some (vI (i : Int)), none]) pn_X0 rfl (fun h => absurd h (by decide)) rfl (Nat.le_of_ble_eq_true rfl) rfl ?_
  have loop : v1 = 1 → ∀ (n k : Nat) (M1 : pM) (g1 : Nat → Int), k ≤ 96 → 96 - k = n → Off M M1 ca (ca + 2) → M1 ca = some (ob 0 [.ref (ca + 1), vI u]) → M1 (ca + 1) = some (arZ 96 g1) → (∀ s, s < 96 → g1 s = if ex s || (decide (s < k) && decide (0 < t[i].2 s)) then 1 else 0) → G I_X0_leave 0 0 (fun M' z' r' => z' = z ∧ r' = none ∧ Ca M' ca (if v1 = 1 then fun s => ex s || decide (0 < t[i].2 s) else ex) ∧ Off M M' ca (ca + 2)) 0 0 10 [some (.ref ca), some (.ref st), some (vI (i : Int)), some (vI (k : Int))] [] M1 z := by
    intro hv1 n
    induction n with
    | zero =>
      intro k M g hk hn fr m_q m_a hz
      have e : k = 96 := by omega
      subst e
      refine g_iload_n dX0_leave_10 rfl ?_
      refine g_aload_n dX0_leave_11 rfl ?_
      refine z_getf fl_X0_9 dX0_leave_12 m_q rfl ?_
      refine z_alenZ dX0_leave_15 m_a ?_
      refine z_icmp_ge (tgt := 57) dX0_leave_16 (by decide) (by omega) (by omega) (fun c16 => ?_) (fun c16 => absurd c16 (by omega))
      refine g_aload_n dX0_leave_57 rfl ?_
      refine z_iconst dX0_leave_58 ?_
      refine z_putf fl_X0_15 dX0_leave_59 m_q rfl (Nat.le_of_ble_eq_true rfl) rfl rfl (fun M m_q o => ?_)
      have m_a := (o _ (by omega)).trans m_a
      have fr := fr.one o (by omega)
      exact g_return dX0_leave_62 rfl (Nat.le_of_ble_eq_true rfl) (Nat.le_of_ble_eq_true rfl) ⟨rfl, rfl, ⟨0, g, m_q, m_a, Or.inl rfl, fun q => by omega, fun s hs => by rw [hz s hs, if_pos hv1]; simp [hs]⟩, fr⟩
    | succ n ih =>
      intro k M g hk hn fr m_q m_a hz
      have hk2 : k < 96 := by omega
      have m_s := (fr _ (by omega)).trans m_s
      have hm := hm.off fr (by omega)
      have m_o := hm.obj
      have hzk := hz k hk2
      have hc := hok.cnt hk2
      refine g_iload_n dX0_leave_10 rfl ?_
      refine g_aload_n dX0_leave_11 rfl ?_
      refine z_getf fl_X0_9 dX0_leave_12 m_q rfl ?_
      refine z_alenZ dX0_leave_15 m_a ?_
      refine z_icmp_ge (tgt := 57) dX0_leave_16 (by decide) (by omega) (by omega) (fun c16 => absurd c16 (by omega)) (fun c16 => ?_)
      refine g_aload_n dX0_leave_19 rfl ?_
      refine z_getf fl_X0_9 dX0_leave_20 m_q rfl ?_
      refine g_iload_n dX0_leave_23 rfl ?_
      refine g_aload_n dX0_leave_24 rfl ?_
      refine z_getf fl_X0_9 dX0_leave_25 m_q rfl ?_
      refine g_iload_n dX0_leave_28 rfl ?_
      refine z_baload (j := k) dX0_leave_29 m_a (by omega) (by omega) (by omega) ?_
      refine z_if_ne (tgt := 45) dX0_leave_30 (by decide) (by split at hzk <;> omega) (fun c30 => ?_) (fun c30 => ?_)
      · refine z_iconst dX0_leave_45 ?_
        refine g_goto (tgt := 50) dX0_leave_46 (by decide) ?_
        refine z_bastore (j := k) dX0_leave_50 m_a (by omega) (by omega) (by omega) (by omega) (fun M m_a o => ?_)
        have m_q := (o _ (by omega)).trans m_q
        have m_o := (o _ (by omega)).trans m_o
        have m_s := (o _ (by omega)).trans m_s
        have fr := fr.one o (by omega)
        refine z_iinc dX0_leave_51 rfl (Nat.le_of_ble_eq_true rfl) ?_
        refine g_goto (tgt := 10) dX0_leave_54 (by decide) ?_
        exact ih (k + 1) M _ (by omega) (by omega) fr m_q m_a (fun s hs => by
          by_cases e : s = k
          · subst e
            rw [upZ_s]
            first
            | (have hp : ex s = true := by
                 rcases hx : ex s with _ | _
                 · simp [hx] at hzk; omega
                 · rfl
               simp [hp]; done)
            | (have hp : 0 < t[i].2 s := by omega
               simp [hp]; done)
            | (have hp : ¬ 0 < t[i].2 s := by omega
               have hq : ex s = false := by
                 rcases hx : ex s with _ | _
                 · rfl
                 · simp [hx] at hzk; omega
               simp [hp, hq]; done)
          · rw [upZ_n e, hz s hs]
            have e2 : decide (s < k + 1) = decide (s < k) := by
              by_cases hh : s < k
              · simp [hh]; omega
              · simp [hh]; omega
            rw [e2])
      · refine g_aload_n dX0_leave_33 rfl ?_
        refine z_getf fl_X0_42 dX0_leave_34 m_s rfl ?_
        refine g_iload_n dX0_leave_37 rfl ?_
        refine g_iload_n dX0_leave_38 rfl ?_
        refine z_callVR dX0_leave_39 lm_X0_23 lk_X4_countIn (Md_countIn hm hi hk2) rfl rfl m_o rfl (mkRoom rfl rfl) (Nat.le_of_ble_eq_true rfl) (Nat.le_of_ble_eq_true rfl) (Nat.le_of_ble_eq_true rfl) ?_
        refine z_if_le (tgt := 49) dX0_leave_42 (by decide) (by omega) (fun c42 => ?_) (fun c42 => ?_)
        · refine z_iconst dX0_leave_49 ?_
          refine z_bastore (j := k) dX0_leave_50 m_a (by omega) (by omega) (by omega) (by omega) (fun M m_a o => ?_)
          have m_q := (o _ (by omega)).trans m_q
          have m_o := (o _ (by omega)).trans m_o
          have m_s := (o _ (by omega)).trans m_s
          have fr := fr.one o (by omega)
          refine z_iinc dX0_leave_51 rfl (Nat.le_of_ble_eq_true rfl) ?_
          refine g_goto (tgt := 10) dX0_leave_54 (by decide) ?_
          exact ih (k + 1) M _ (by omega) (by omega) fr m_q m_a (fun s hs => by
            by_cases e : s = k
            · subst e
              rw [upZ_s]
              first
              | (have hp : ex s = true := by
                   rcases hx : ex s with _ | _
                   · simp [hx] at hzk; omega
                   · rfl
                 simp [hp]; done)
              | (have hp : 0 < t[i].2 s := by omega
                 simp [hp]; done)
              | (have hp : ¬ 0 < t[i].2 s := by omega
                 have hq : ex s = false := by
                   rcases hx : ex s with _ | _
                   · rfl
                   · simp [hx] at hzk; omega
                 simp [hp, hq]; done)
            · rw [upZ_n e, hz s hs]
              have e2 : decide (s < k + 1) = decide (s < k) := by
                by_cases hh : s < k
                · simp [hh]; omega
                · simp [hh]; omega
              rw [e2])
        · refine z_iconst dX0_leave_45 ?_
          refine g_goto (tgt := 50) dX0_leave_46 (by decide) ?_
          refine z_bastore (j := k) dX0_leave_50 m_a (by omega) (by omega) (by omega) (by omega) (fun M m_a o => ?_)
          have m_q := (o _ (by omega)).trans m_q
          have m_o := (o _ (by omega)).trans m_o
          have m_s := (o _ (by omega)).trans m_s
          have fr := fr.one o (by omega)
          refine z_iinc dX0_leave_51 rfl (Nat.le_of_ble_eq_true rfl) ?_
          refine g_goto (tgt := 10) dX0_leave_54 (by decide) ?_
          exact ih (k + 1) M _ (by omega) (by omega) fr m_q m_a (fun s hs => by
            by_cases e : s = k
            · subst e
              rw [upZ_s]
              first
              | (have hp : ex s = true := by
                   rcases hx : ex s with _ | _
                   · simp [hx] at hzk; omega
                   · rfl
                 simp [hp]; done)
              | (have hp : 0 < t[i].2 s := by omega
                 simp [hp]; done)
              | (have hp : ¬ 0 < t[i].2 s := by omega
                 have hq : ex s = false := by
                   rcases hx : ex s with _ | _
                   · rfl
                   · simp [hx] at hzk; omega
                 simp [hp, hq]; done)
            · rw [upZ_n e, hz s hs]
              have e2 : decide (s < k + 1) = decide (s < k) := by
                by_cases hh : s < k
                · simp [hh]; omega
                · simp [hh]; omega
              rw [e2])
  refine g_aload_n dX0_leave_0 rfl ?_
  refine z_getf fl_X0_37 dX0_leave_1 m_s rfl ?_
  refine z_if_ne (tgt := 8) dX0_leave_4 (by decide) (by omega) (fun c4 => ?_) (fun c4 => ?_)
  · refine z_iconst dX0_leave_8 ?_
    refine g_istore_n dX0_leave_9 rfl (Nat.le_of_ble_eq_true rfl) ?_
    exact loop (by omega) 96 0 M g (Nat.zero_le _) rfl fr m_q m_a (fun s hs => by rw [hg s hs]; simp)
  · exact g_return dX0_leave_7 rfl (Nat.le_of_ble_eq_true rfl) (Nat.le_of_ble_eq_true rfl) ⟨rfl, rfl, by rw [if_neg (by omega)]; exact h, fr⟩
