/-! a table that learns -/
def okT (t : tbl) : Prop := t.length ≤ 250 ∧ ∀ e ∈ t, okE e ∧ wt e.2 ≤ 1000 ∧ 1 ≤ kn e.2
def inc1 (t : tbl) (k : Int) (s : Nat) (stp lim : Int) : tbl := if 0 ≤ (met t k).2 then rse (met t k).1 (met t k).2.toNat s stp lim else (met t k).1
def incr (t : tbl) (f : Nat → Int) (s : Nat) (stp lim : Int) : Nat → tbl
  | 0 => t
  | n + 1 => inc1 (incr t f s stp lim n) (f n) s stp lim
theorem okT_nil : okT [] := ⟨by simp, by simp⟩
theorem grw_ok {c : Nat → Int} {s : Nat} {stp lim : Int} (h0 : ∀ x, x < 96 → 0 ≤ c x) (hw : wt c ≤ 1000) (hs : s < 96) (hst : 1 ≤ stp ∧ stp ≤ 10) (hli : 20 ≤ lim ∧ lim ≤ 1000) : (∀ x, x < 96 → 0 ≤ grw c s stp lim x) ∧ wt (grw c s stp lim) ≤ 1000 ∧ 1 ≤ kn (grw c s stp lim) := by
  have hu : ∀ x, x < 96 → 0 ≤ upZ c s (c s + stp) x := by
    intro x hx
    by_cases e : x = s
    · subst e; rw [upZ_s]; have := h0 x hx; omega
    · rw [upZ_n e]; exact h0 x hx
  have hwu : wt (upZ c s (c s + stp)) = wt c + stp := by unfold wt; rw [sm_up hs]; omega
  have hci := h0 s hs
  have hku := kn_up (c := c) (s := s) (v := c s + stp) hs
  rw [if_pos (show 0 < c s + stp by omega)] at hku
  have hk1 : (if 0 < c s then (1 : Int) else 0) ≤ kn c := sm_le (c := fun s => if 0 < c s then (1 : Int) else 0) hs (fun x _ => by have := kn_01 c x; omega)
  unfold grw
  split
  · next hgt =>
    refine ⟨fun x hx => by have := hu x hx; show 0 ≤ (upZ c s (c s + stp) x + 1) / 2; omega, ?_, ?_⟩
    · have h1 := sm_half (c := upZ c s (c s + stp)) (n := 96)
      unfold wt at hwu hw ⊢
      omega
    · have e : kn (fun x => (upZ c s (c s + stp) x + 1) / 2) = kn (upZ c s (c s + stp)) := by
        unfold kn
        refine sm_cong (fun x hx => ?_)
        have := hu x hx
        show (if 0 < (upZ c s (c s + stp) x + 1) / 2 then (1 : Int) else 0) = if 0 < upZ c s (c s + stp) x then 1 else 0
        by_cases hz : 0 < upZ c s (c s + stp) x
        · rw [if_pos hz, if_pos (by omega)]
        · rw [if_neg hz, if_neg (by omega)]
      rw [e]; omega
  · exact ⟨hu, by omega, by omega⟩
theorem okE_mk {k : Int} {c : Nat → Int} (hk : 0 ≤ k ∧ k < 2147483648) (h0 : ∀ s, s < 96 → 0 ≤ c s) (hw : wt c ≤ 1000) : okE (k, c) := ⟨hk, h0, by
  have h2 : wt c ≤ 1010 := by omega
  exact h2⟩
theorem okT_set {t : tbl} (h : okT t) {i s : Nat} {stp lim : Int} (hi : i < t.length) (hs : s < 96) (hst : 1 ≤ stp ∧ stp ≤ 10) (hli : 20 ≤ lim ∧ lim ≤ 1000) : okT (rse t i s stp lim) := by
  have hoi := h.2 _ (List.getElem_mem hi)
  obtain ⟨g1, g2, g3⟩ := grw_ok (s := s) hoi.1.2.1 hoi.2.1 hs hst hli
  unfold rse
  rw [List.getElem?_eq_getElem hi]
  refine ⟨by rw [List.length_set]; exact h.1, fun e he => ?_⟩
  rcases List.mem_or_eq_of_mem_set he with he | rfl
  · exact h.2 e he
  · dsimp only; exact ⟨okE_mk hoi.1.1 g1 g2, g2, g3⟩
/-- a table in which all is well but a last context that nothing was met in -/
def okM (t : tbl) : Prop := t.length ≤ 250 ∧ ∀ e ∈ t, okE e ∧ wt e.2 ≤ 1000
theorem met_cases (t : tbl) (k : Int) : ((met t k).1 = t ∧ (met t k).2 = -1 ∧ fnd t k = -1 ∧ 250 ≤ t.length) ∨ (∃ (i : Nat) (h : i < t.length), (met t k).1 = t ∧ (met t k).2 = i ∧ fnd t k = i ∧ t[i].1 = k) ∨ (fnd t k = -1 ∧ t.length < 250 ∧ (met t k).1 = t ++ [(k, fun _ => 0)] ∧ (met t k).2 = t.length) := by
  unfold met
  rcases fnd_cases t k with ⟨h1, h2⟩ | ⟨i, hi, h1, h2⟩
  · by_cases hl : 250 ≤ t.length
    · rw [if_pos (Or.inr hl)]; exact Or.inl ⟨rfl, h1, h1, hl⟩
    · rw [if_neg (by omega)]; exact Or.inr (Or.inr ⟨h1, by omega, rfl, rfl⟩)
  · rw [if_pos (Or.inl (by omega))]; exact Or.inr (Or.inl ⟨i, hi, rfl, h1, h1, h2⟩)
theorem okT_met {t : tbl} (h : okT t) {k : Int} (hk : 0 ≤ k ∧ k < 2147483648) : okM (met t k).1 ∧ -1 ≤ (met t k).2 ∧ (0 ≤ (met t k).2 → (met t k).2.toNat < (met t k).1.length) := by
  have hM : okM t := ⟨h.1, fun e he => ⟨(h.2 e he).1, (h.2 e he).2.1⟩⟩
  rcases met_cases t k with ⟨h1, h2, -⟩ | ⟨i, hi, h1, h2, -⟩ | ⟨-, hl, h1, h2⟩
  · rw [h1, h2]; exact ⟨hM, by omega, by omega⟩
  · rw [h1, h2]; exact ⟨hM, by omega, by omega⟩
  · rw [h1, h2]
    refine ⟨⟨by simp; omega, fun e he => ?_⟩, by omega, fun _ => by simp⟩
    rcases List.mem_append.mp he with he | he
    · exact hM.2 e he
    · rw [List.mem_singleton] at he
      subst he
      exact ⟨⟨hk, fun _ _ => Int.le_refl _, by show wt (fun _ => 0) ≤ 1010; rw [wt_0]; decide⟩, by show wt (fun _ => 0) ≤ 1000; rw [wt_0]; decide⟩
theorem okT_inc1 {t : tbl} (h : okT t) {k : Int} {s : Nat} {stp lim : Int} (hk : 0 ≤ k ∧ k < 2147483648) (hs : s < 96) (hst : 1 ≤ stp ∧ stp ≤ 10) (hli : 20 ≤ lim ∧ lim ≤ 1000) : okT (inc1 t k s stp lim) := by
  unfold inc1
  rcases met_cases t k with ⟨h1, h2, -⟩ | ⟨i, hi, h1, h2, -⟩ | ⟨-, hl, h1, h2⟩
  · rw [h1, h2, if_neg (by omega)]; exact h
  · rw [h1, h2, if_pos (by omega), Int.toNat_natCast]; exact okT_set h hi hs hst hli
  · rw [h1, h2, if_pos (by omega), Int.toNat_natCast]
    unfold rse
    rw [List.getElem?_append_right (Nat.le_refl _), Nat.sub_self, List.getElem?_cons_zero]
    show okT ((t ++ [(k, fun _ => 0)]).set t.length (k, grw (fun _ => 0) s stp lim))
    obtain ⟨g1, g2, g3⟩ := grw_ok (c := fun _ => 0) (s := s) (fun _ _ => Int.le_refl _) (by rw [wt_0]; decide) hs hst hli
    refine ⟨by simp; omega, fun e he => ?_⟩
    rw [List.set_append_right _ _ (Nat.le_refl _), Nat.sub_self] at he
    rcases List.mem_append.mp he with he | he
    · exact h.2 e he
    · have he : e = (k, grw (fun _ => 0) s stp lim) := by simpa using he
      subst he
      dsimp only; exact ⟨okE_mk hk g1 g2, g2, g3⟩
theorem okT_incr {t : tbl} (h : okT t) {f : Nat → Int} {s : Nat} {stp lim : Int} (hs : s < 96) (hst : 1 ≤ stp ∧ stp ≤ 10) (hli : 20 ≤ lim ∧ lim ≤ 1000) : ∀ {n : Nat}, (∀ j, j < n → 0 ≤ f j ∧ f j < 2147483648) → okT (incr t f s stp lim n)
  | 0, _ => h
  | n + 1, hf => okT_inc1 (okT_incr h hs hst hli (fun j hj => hf j (by omega))) (hf n (by omega)) hs hst hli
/-- settings that are allowed -/
def okS (ord exc stp lim : Int) : Prop := (0 ≤ ord ∧ ord ≤ 3) ∧ (exc = 0 ∨ exc = 1) ∧ (1 ≤ stp ∧ stp ≤ 10) ∧ (20 ≤ lim ∧ lim ≤ 1000)
def ky (xs : List Int) (n : Nat) : Nat → Int := fun j => ck (cx xs n j)
theorem ky_rng {xs : List Int} {n j : Nat} (h : okX xs) (hn : n ≤ xs.length) (hj : j ≤ n) (h3 : j ≤ 3) : 0 ≤ ky xs n j ∧ ky xs n j < 2147483648 := ck_rng (cx_ok h) (by rw [cx_len hn hj]; exact h3)
/-- how many orders there are with a history of n characters -/
def nOrd (ord : Int) (n : Nat) : Nat := min ord.toNat n + 1
set_option maxHeartbeats 1000000 in
theorem Stt_increase {M : pM} {z st q N n s : Nat} {ord exc stp lim : Int} {r1 r2 r3 : Value} {t : tbl} {xs : List Int} (m_s : M st = some (ob 7 [vI ord, vI exc, vI stp, vI lim, .ref (st + 1), r1, r2, r3])) (h : Md M (st + 1) t) (ht : okT t) (hS : okS ord exc stp lim) (hq : Rw M q N xs) (hx : okX xs) (hn : n ≤ xs.length) (hs : s < 96) (hd : q + 2 ≤ st + 1 ∨ st + 6 ≤ q) : CW I_X7_increase yX7_increase [.ref st, .ref q, vI (n : Int), vI (s : Int)] M z (fun M' r => r = none ∧ Md M' (st + 1) (incr t (ky xs n) s stp lim (nOrd ord n)) ∧ Off M M' (st + 1) (st + 6)) := by
  obtain ⟨hS1, hS2, hS3, hS4⟩ := hS
  have fr : Off M M (st + 1) (st + 6) := Off.rf
  have hql := hq.len
  refine C.intro (pl := [some (.ref st), some (.ref q), some (vI (n : Int)), some (vI (s : Int)), none, none]) pn_X7 rfl (fun h => absurd h (by decide)) rfl (Nat.le_of_ble_eq_true rfl) rfl ?_
  have loop : ∀ (k j : Nat) (M1 : pM), j ≤ nOrd ord n → nOrd ord n - j = k → Off M M1 (st + 1) (st + 6) → Md M1 (st + 1) (incr t (ky xs n) s stp lim j) → ∀ K : Option Value, G I_X7_increase 0 0 (fun M' z' r' => z' = z ∧ r' = none ∧ Md M' (st + 1) (incr t (ky xs n) s stp lim (nOrd ord n)) ∧ Off M M' (st + 1) (st + 6)) 0 0 3 [some (.ref st), some (.ref q), some (vI (n : Int)), some (vI (s : Int)), some (vI (j : Int)), K] [] M1 z := by
    intro k
    induction k with
    | zero =>
      intro j M1 hj hk fr h K
      have m_s := (fr _ (by omega)).trans m_s
      have e : j = nOrd ord n := by omega
      subst e
      have hno : (nOrd ord n : Int) ≤ 4 ∧ (nOrd ord n : Int) > ord ∨ (nOrd ord n : Int) ≤ 4 ∧ (nOrd ord n : Int) > n := by unfold nOrd; omega
      refine g_iload dX7_increase_3 rfl ?_
      refine g_aload_n dX7_increase_5 rfl ?_
      refine z_getf fl_X7_51 dX7_increase_6 m_s rfl ?_
      refine z_icmp_gt (tgt := 63) dX7_increase_9 (by decide) (by omega) (by omega) (fun c9 => ?_) (fun c9 => ?_)
      · exact g_return dX7_increase_63 rfl (Nat.le_of_ble_eq_true rfl) (Nat.le_of_ble_eq_true rfl) ⟨rfl, rfl, h, fr⟩
      · refine g_iload dX7_increase_12 rfl ?_
        refine g_iload_n dX7_increase_14 rfl ?_
        refine z_icmp_gt (tgt := 63) dX7_increase_15 (by decide) (by omega) (by omega) (fun c15 => ?_) (fun c15 => absurd c15 (by omega))
        exact g_return dX7_increase_63 rfl (Nat.le_of_ble_eq_true rfl) (Nat.le_of_ble_eq_true rfl) ⟨rfl, rfl, h, fr⟩
    | succ k ih =>
      intro j M1 hj hk fr h K
      have m_s := (fr _ (by omega)).trans m_s
      have hq1 := hq.off fr (by omega)
      have hjo : (j : Int) ≤ ord ∧ j ≤ n := by unfold nOrd at hj hk; omega
      have hky := ky_rng (xs := xs) (n := n) (j := j) hx hn hjo.2 (by omega)
      have htj := okT_incr ht (f := ky xs n) (n := j) hs hS3 hS4 (fun i hi => ky_rng hx hn (by omega) (by omega))
      have hmt := okT_met htj hky
      have ih2 := fun M2 (fr2 : Off M M2 (st + 1) (st + 6)) h2 => ih (j + 1) M2 (by omega) (by omega) fr2 h2
      refine g_iload dX7_increase_3 rfl ?_
      refine g_aload_n dX7_increase_5 rfl ?_
      refine z_getf fl_X7_51 dX7_increase_6 m_s rfl ?_
      refine z_icmp_gt (tgt := 63) dX7_increase_9 (by decide) (by omega) (by omega) (fun c9 => absurd c9 (by omega)) (fun c9 => ?_)
      refine g_iload dX7_increase_12 rfl ?_
      refine g_iload_n dX7_increase_14 rfl ?_
      refine z_icmp_gt (tgt := 63) dX7_increase_15 (by decide) (by omega) (by omega) (fun c15 => absurd c15 (by omega)) (fun c15 => ?_)
      refine g_aload_n dX7_increase_18 rfl ?_
      refine z_getf fl_X7_12 dX7_increase_19 m_s rfl ?_
      refine g_aload_n dX7_increase_22 rfl ?_
      refine g_iload_n dX7_increase_23 rfl ?_
      refine g_iload dX7_increase_24 rfl ?_
      refine z_callSR dX7_increase_26 lm_X7_65 lk_X8_contextKey (x_contextKey (j := j) hq1 hn hjo.2) rfl rfl (mkRoom rfl rfl) (Nat.le_of_ble_eq_true rfl) (Nat.le_of_ble_eq_true rfl) (Nat.le_of_ble_eq_true rfl) ?_
      refine z_callVV dX7_increase_29 lm_X7_69 lk_X4_meet (Md_meet h hky) rfl rfl h.obj rfl (mkRoom rfl rfl) (Nat.le_of_ble_eq_true rfl) (Nat.le_of_ble_eq_true rfl) (Nat.le_of_ble_eq_true rfl) (fun M r hp => ?_)
      obtain ⟨rfl, h, o1⟩ := hp
      have fr := fr.tr (o1.wd (by omega) (by omega))
      have m_s := (o1 _ (by omega)).trans m_s
      refine g_istore dX7_increase_32 (Nat.le_of_ble_eq_true rfl) ?_
      refine g_iload dX7_increase_34 rfl ?_
      refine z_if_lt (tgt := 57) dX7_increase_36 (by decide) (by have := hmt.2.1; have := hmt.2.2; have := hmt.1.1; omega) (fun c36 => ?_) (fun c36 => ?_)
      · refine z_iinc dX7_increase_57 rfl (Nat.le_of_ble_eq_true rfl) ?_
        refine g_goto (tgt := 3) dX7_increase_60 (by decide) ?_
        refine ih2 M fr ?_ _
        show Md M (st + 1) (inc1 _ _ _ _ _)
        unfold inc1
        first
        | (rw [if_pos c36]; exact h)
        | (rw [if_neg (by omega)]; exact h)
      · refine g_aload_n dX7_increase_39 rfl ?_
        refine z_getf fl_X7_12 dX7_increase_40 m_s rfl ?_
        refine g_iload dX7_increase_43 rfl ?_
        have e36 : vI (met (incr t (ky xs n) s stp lim j) (ky xs n j)).2 = vI (((met (incr t (ky xs n) s stp lim j) (ky xs n j)).2.toNat : Nat) : Int) := by rw [Int.toNat_of_nonneg c36]
        refine G.top e36 ?_
        refine g_iload_n dX7_increase_45 rfl ?_
        refine g_aload_n dX7_increase_46 rfl ?_
        refine z_getf fl_X7_59 dX7_increase_47 m_s rfl ?_
        refine g_aload_n dX7_increase_50 rfl ?_
        refine z_getf fl_X7_62 dX7_increase_51 m_s rfl ?_
        refine z_callVV dX7_increase_54 lm_X7_73 lk_X4_raise (Md_raise (i := (met (incr t (ky xs n) s stp lim j) (ky xs n j)).2.toNat) h (hmt.2.2 c36) hs (hmt.1.2 _ (List.getElem_mem _)).2 hS3 hS4) rfl rfl h.obj rfl (mkRoom rfl rfl) (Nat.le_of_ble_eq_true rfl) (Nat.le_of_ble_eq_true rfl) (Nat.le_of_ble_eq_true rfl) (fun M r hp => ?_)
        obtain ⟨rfl, h, o1⟩ := hp
        have fr := fr.tr (o1.wd (by omega) (by omega))
        have m_s := (o1 _ (by omega)).trans m_s
        refine z_iinc dX7_increase_57 rfl (Nat.le_of_ble_eq_true rfl) ?_
        refine g_goto (tgt := 3) dX7_increase_60 (by decide) ?_
        refine ih2 M fr ?_ _
        show Md M (st + 1) (inc1 _ _ _ _ _)
        unfold inc1
        first
        | (rw [if_pos c36]; exact h)
        | (rw [if_neg (by omega)]; exact h)
  refine z_iconst dX7_increase_0 ?_
  refine g_istore dX7_increase_1 (Nat.le_of_ble_eq_true rfl) ?_
  exact loop (nOrd ord n) 0 M (Nat.zero_le _) (by omega) fr h _
