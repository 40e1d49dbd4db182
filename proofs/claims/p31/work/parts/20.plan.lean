/-! how a symbol is coded -/
/-- the counts of a context, if it was met -/
def cnO (t : tbl) (k : Int) : Option (Nat → Int) := if fnd t k < 0 then none else (t[(fnd t k).toNat]?).map (fun e => e.2)
theorem cnO_no {t : tbl} {k : Int} (h : fnd t k < 0) : cnO t k = none := by unfold cnO; rw [if_pos h]
theorem cnO_at {t : tbl} {k : Int} {i : Nat} (h : fnd t k = i) (hi : i < t.length) : cnO t k = some t[i].2 := by
  unfold cnO
  rw [if_neg (by omega), h, Int.toNat_natCast, List.getElem?_eq_getElem hi]
  rfl
def lev (exc : Int) (ex : Nat → Bool) (c : Nat → Int) : Nat → Bool := if exc = 1 then fun s => ex s || decide (0 < c s) else ex
def pln (g : Nat → Option (Nat → Int)) (exc : Int) (s : Nat) : Nat → (Nat → Bool) → List iv → List iv × Int
  | 0, ex, L => (L ++ [(cnx ex s, cnx ex s + 1, cnx ex 96)], -1)
  | n + 1, ex, L => match g n with
    | none => pln g exc s n ex L
    | some c => if ex s = false ∧ 0 < c s then (L ++ [(smx ex c s, smx ex c s + c s, smx ex c 96 + kn c)], (n : Int)) else pln g exc s n (lev exc ex c) (L ++ [(smx ex c 96, smx ex c 96 + kn c, smx ex c 96 + kn c)])
theorem pln_no {g : Nat → Option (Nat → Int)} {exc : Int} {s n : Nat} {ex : Nat → Bool} {L : List iv} (h : g n = none) : pln g exc s (n + 1) ex L = pln g exc s n ex L := by rw [pln, h]
theorem pln_yes {g : Nat → Option (Nat → Int)} {exc : Int} {s n : Nat} {ex : Nat → Bool} {L : List iv} {c : Nat → Int} (h : g n = some c) (hc : ex s = false ∧ 0 < c s) : pln g exc s (n + 1) ex L = (L ++ [(smx ex c s, smx ex c s + c s, smx ex c 96 + kn c)], (n : Int)) := by rw [pln, h]; dsimp only; rw [if_pos hc]
theorem pln_esc {g : Nat → Option (Nat → Int)} {exc : Int} {s n : Nat} {ex : Nat → Bool} {L : List iv} {c : Nat → Int} (h : g n = some c) (hc : ¬ (ex s = false ∧ 0 < c s)) : pln g exc s (n + 1) ex L = pln g exc s n (lev exc ex c) (L ++ [(smx ex c 96, smx ex c 96 + kn c, smx ex c 96 + kn c)]) := by rw [pln, h]; dsimp only; rw [if_neg hc]
/-- the counts of a context that was met, with their bounds -/
def okC (c : Nat → Int) : Prop := (∀ x, x < 96 → 0 ≤ c x) ∧ wt c ≤ 1000 ∧ 1 ≤ kn c
theorem okT.at {t : tbl} (h : okT t) {i : Nat} (hi : i < t.length) : okC t[i].2 := ⟨(h.2 _ (List.getElem_mem hi)).1.2.1, (h.2 _ (List.getElem_mem hi)).2.1, (h.2 _ (List.getElem_mem hi)).2.2⟩
theorem okT.cnO {t : tbl} (h : okT t) {k : Int} {c : Nat → Int} (hc : cnO t k = some c) : okC c := by
  rcases fnd_cases t k with ⟨h1, -⟩ | ⟨i, hi, h1, -⟩
  · rw [cnO_no (by omega)] at hc; cases hc
  · rw [cnO_at h1 hi] at hc; cases hc; exact h.at hi
theorem okC.smx {c : Nat → Int} (h : okC c) (ex : Nat → Bool) {n : Nat} (hn : n ≤ 96) : 0 ≤ smx ex c n ∧ smx ex c n ≤ 1000 := by
  have h1 := smx_le (ex := ex) (c := c) (n := n) (fun s hs => h.1 s (by omega))
  have h2 := sm_mono (c := c) (n := 96) (m := n) hn h.1
  have h3 := h.2.1
  unfold wt at h3
  omega
theorem okC.cnt {c : Nat → Int} (h : okC c) {s : Nat} (hs : s < 96) : 0 ≤ c s ∧ c s ≤ 1000 := ⟨h.1 s hs, by have := sm_le hs h.1; have := h.2.1; unfold wt at this; omega⟩
theorem smx_mono {ex : Nat → Bool} {c : Nat → Int} {n m : Nat} (hm : m ≤ n) (h : ∀ s, s < n → 0 ≤ c s) : smx ex c m ≤ smx ex c n := sm_mono (c := fun s => if ex s then 0 else c s) hm (fun s hs => by
  show 0 ≤ if ex s = true then 0 else c s
  have := h s hs
  split <;> omega)
theorem cnx_mono {ex : Nat → Bool} {n m : Nat} (hm : m ≤ n) : cnx ex m ≤ cnx ex n := sm_mono (c := fun s => if ex s then 0 else 1) hm (fun s _ => by
  show 0 ≤ if ex s = true then (0 : Int) else 1
  split <;> omega)
/-- the interval of a symbol that is a candidate; of an escape; where no order has coded it -/
theorem okI_sym {ex : Nat → Bool} {c : Nat → Int} {s : Nat} (h : okC c) (hs : s < 96) (he : ex s = false) (hc : 0 < c s) : okI (smx ex c s, smx ex c s + c s, smx ex c 96 + kn c) := by
  have h1 := h.smx ex (n := s) (by omega)
  have h2 := h.smx ex (n := 96) (by omega)
  have h3 := smx_mono (ex := ex) (c := c) (m := s + 1) (n := 96) (by omega) h.1
  rw [smx_s, if_neg (by rw [he]; decide)] at h3
  have h4 := kn_rng c
  have h5 := h.2.2
  exact ⟨h1.1, by dsimp only; omega, by dsimp only; omega, by dsimp only; omega⟩
theorem okI_esc {ex : Nat → Bool} {c : Nat → Int} (h : okC c) : okI (smx ex c 96, smx ex c 96 + kn c, smx ex c 96 + kn c) := by
  have h2 := h.smx ex (n := 96) (by omega)
  have h4 := kn_rng c
  have h5 := h.2.2
  exact ⟨h2.1, by dsimp only; omega, by dsimp only; omega, by dsimp only; omega⟩
theorem okI_last {ex : Nat → Bool} {s : Nat} (hs : s < 96) (he : ex s = false) : okI (cnx ex s, cnx ex s + 1, cnx ex 96) := by
  have h1 := cnx_rng ex s
  have h3 := cnx_mono (ex := ex) (m := s + 1) (n := 96) (by omega)
  rw [cnx_s, if_neg (by rw [he]; decide)] at h3
  have h4 := cnx_rng ex 96
  exact ⟨h1.1, by dsimp only; omega, by dsimp only; omega, by dsimp only; omega⟩
theorem lev_s {exc : Int} {ex : Nat → Bool} {c : Nat → Int} {s : Nat} (he : ex s = false) (hc : ¬ (ex s = false ∧ 0 < c s)) : lev exc ex c s = false := by
  unfold lev
  split
  · have : ¬ 0 < c s := fun q => hc ⟨he, q⟩
    simp [he, this]
  · exact he
theorem pln_ok {g : Nat → Option (Nat → Int)} {exc : Int} {s : Nat} (hs : s < 96) (hg : ∀ n c, g n = some c → okC c) : ∀ (n : Nat) (ex : Nat → Bool) (L : List iv), ex s = false → (∀ x ∈ L, okI x) → (∀ x ∈ (pln g exc s n ex L).1, okI x) ∧ (pln g exc s n ex L).1.length ≤ L.length + n + 1 ∧ L.length + 1 ≤ (pln g exc s n ex L).1.length ∧ -1 ≤ (pln g exc s n ex L).2 ∧ (pln g exc s n ex L).2 < n
  | 0, ex, L, he, hL => by
    rw [pln]
    refine ⟨fun x hx => ?_, by simp, by simp, by simp, by simp⟩
    rcases List.mem_append.mp hx with hx | hx
    · exact hL x hx
    · rw [List.mem_singleton] at hx; subst hx; exact okI_last hs he
  | n + 1, ex, L, he, hL => by
    cases hn : g n with
    | none =>
      rw [pln_no hn]
      have := pln_ok (exc := exc) hs hg n ex L he hL
      exact ⟨this.1, by omega, by omega, by omega, by omega⟩
    | some c =>
      by_cases hc : ex s = false ∧ 0 < c s
      · rw [pln_yes hn hc]
        refine ⟨fun x hx => ?_, by simp, by simp, by dsimp only; omega, by dsimp only; omega⟩
        rcases List.mem_append.mp hx with hx | hx
        · exact hL x hx
        · rw [List.mem_singleton] at hx; subst hx; exact okI_sym (hg n c hn) hs he hc.2
      · rw [pln_esc hn hc]
        have := pln_ok (exc := exc) hs hg n (lev exc ex c) (L ++ [(smx ex c 96, smx ex c 96 + kn c, smx ex c 96 + kn c)]) (lev_s he hc) (fun x hx => by
          rcases List.mem_append.mp hx with hx | hx
          · exact hL x hx
          · rw [List.mem_singleton] at hx; subst hx; exact okI_esc (hg n c hn))
        rw [List.length_append, List.length_singleton] at this
        exact ⟨this.1, by omega, by omega, by omega, by omega⟩
/-- all of a symbol's coding: its intervals, its order -/
def route (t : tbl) (xs : List Int) (n : Nat) (exc : Int) (ord : Int) (s : Nat) : List iv × Int := pln (fun j => cnO t (ky xs n j)) exc s (nOrd ord n) (fun _ => false) []
/-- the main object's cell -/
def Cc (M : pM) (c : Nat) (kept : Int) : Prop := M c = some (ob 8 [.ref (c + 1), .ref (c + 20), .ref (c + 39), vI kept, .ref (c + 116), .ref (c + 118), .ref (c + 120), .ref (c + 127), .ref (c + 130)])
set_option maxHeartbeats 1000000 in
theorem x_plan {M : pM} {z c st q N n s : Nat} {kept ord exc stp lim lo : Int} {r1 r2 r3 : Value} {t : tbl} {xs : List Int} {ex : Nat → Bool} {L : List iv} (m_c : Cc M c kept) (m_s : M st = some (ob 7 [vI ord, vI exc, vI stp, vI lim, .ref (st + 1), r1, r2, r3])) (hm : Md M (st + 1) t) (ht : okT t) (hS : okS ord exc stp lim) (hq : Rw M q N xs) (hx : okX xs) (hn : n ≤ xs.length) (hs : s < 96) (ha : Ca M (c + 118) ex) (hr : Rt M (c + 120) L lo) (hd1 : st + 6 ≤ c + 118 ∨ c + 127 ≤ st) (hd2 : q + 2 ≤ c + 118 ∨ c + 127 ≤ q) : CW I_X8_plan yX8_plan [.ref c, .ref st, .ref q, vI (n : Int), vI (s : Int)] M z (fun M' r => r = none ∧ Rt M' (c + 120) (route t xs n exc ord s).1 (route t xs n exc ord s).2 ∧ (∃ ex, Ca M' (c + 118) ex) ∧ Off M M' (c + 118) (c + 127)) := by
  obtain ⟨hS1, hS2, hS3, hS4⟩ := id hS
  have m_c : M c = _ := m_c
  have fr : Off M M (c + 118) (c + 127) := Off.rf
  have hql := hq.len
  refine C.intro (pl := [some (.ref c), some (.ref st), some (.ref q), some (vI (n : Int)), some (vI (s : Int)), none, none, none, none, none]) pn_X8 rfl (fun h => absurd h (by decide)) rfl (Nat.le_of_ble_eq_true rfl) rfl ?_
  have loop : ∀ (j : Nat) (ex : Nat → Bool) (L : List iv) (lo : Int) (M1 : pM), j ≤ nOrd ord n → L.length + j ≤ 4 → ex s = false → Cc M1 c kept → M1 st = some (ob 7 [vI ord, vI exc, vI stp, vI lim, .ref (st + 1), r1, r2, r3]) → Md M1 (st + 1) t → Rw M1 q N xs → Ca M1 (c + 118) ex → Rt M1 (c + 120) L lo → Off M M1 (c + 118) (c + 127) → pln (fun j => cnO t (ky xs n j)) exc s j ex L = route t xs n exc ord s → ∀ (K6 K7 K8 K9 : Option Value), G I_X8_plan 0 0 (fun M' z' r' => z' = z ∧ r' = none ∧ Rt M' (c + 120) (route t xs n exc ord s).1 (route t xs n exc ord s).2 ∧ (∃ ex, Ca M' (c + 118) ex) ∧ Off M M' (c + 118) (c + 127)) 0 0 24 [some (.ref c), some (.ref st), some (.ref q), some (vI (n : Int)), some (vI (s : Int)), some (vI ((j : Int) - 1)), K6, K7, K8, K9] [] M1 z := by
    intro j
    induction j with
    | zero =>
      intro ex L lo M hj hL he m_c m_s hm hq ha hr fr hp K6 K7 K8 K9
      have m_c : M c = _ := m_c
      obtain ⟨u, m_ca⟩ := ha.obj
      have m_rt := hr.1
      rw [pln] at hp
      rw [← hp]
      refine g_iload dX8_plan_24 rfl ?_
      refine z_if_lt (tgt := 181) dX8_plan_26 (by decide) (by omega) (fun c26 => ?_) (fun c26 => absurd c26 (by omega))
      refine g_aload_n dX8_plan_181 rfl ?_
      refine z_getf fl_X8_39 dX8_plan_182 m_c rfl ?_
      refine g_iload dX8_plan_185 rfl ?_
      refine z_callVR dX8_plan_187 lm_X8_295 lk_X0_remainingBelow (Ca_remainingBelow (n := s) ha (by omega)) rfl rfl m_ca rfl (mkRoom rfl rfl) (Nat.le_of_ble_eq_true rfl) (Nat.le_of_ble_eq_true rfl) (Nat.le_of_ble_eq_true rfl) ?_
      refine g_istore dX8_plan_190 (Nat.le_of_ble_eq_true rfl) ?_
      refine g_aload_n dX8_plan_192 rfl ?_
      refine z_getf fl_X8_46 dX8_plan_193 m_c rfl ?_
      refine g_iload dX8_plan_196 rfl ?_
      refine g_iload dX8_plan_198 rfl ?_
      refine z_iconst dX8_plan_200 ?_
      refine z_iadd dX8_plan_201 ?_
      refine g_aload_n dX8_plan_202 rfl ?_
      refine z_getf fl_X8_39 dX8_plan_203 m_c rfl ?_
      refine z_bipush dX8_plan_206 (by decide +kernel) ?_
      refine z_callVR dX8_plan_208 lm_X8_295 lk_X0_remainingBelow (Ca_remainingBelow (n := 96) ha (by omega)) rfl rfl m_ca rfl (mkRoom rfl rfl) (Nat.le_of_ble_eq_true rfl) (Nat.le_of_ble_eq_true rfl) (Nat.le_of_ble_eq_true rfl) ?_
      refine z_callVV dX8_plan_211 lm_X8_289 lk_X5_add (Rt_add hr (by first | omega | (simp; omega))) rfl rfl hr.1 rfl (mkRoom rfl rfl) (Nat.le_of_ble_eq_true rfl) (Nat.le_of_ble_eq_true rfl) (Nat.le_of_ble_eq_true rfl) (fun M r hp2 => ?_)
      obtain ⟨rfl, hr, o1⟩ := hp2
      have ha := ha.off o1 (by omega)
      obtain ⟨u, m_ca⟩ := ha.obj
      have m_rt := hr.1
      have m_c := (o1 _ (by omega)).trans m_c
      have m_s := (o1 _ (by omega)).trans m_s
      have hm := hm.off o1 (by omega)
      have hq := hq.off o1 (by omega)
      have fr := fr.tr (o1.wd (by omega) (by omega))
      refine g_aload_n dX8_plan_214 rfl ?_
      refine z_getf fl_X8_46 dX8_plan_215 m_c rfl ?_
      refine z_iconst dX8_plan_218 ?_
      refine z_putf fl_X8_265 dX8_plan_219 m_rt rfl (Nat.le_of_ble_eq_true rfl) rfl rfl (fun M m_rt o => ?_)
      have m_c := (o _ (by omega)).trans m_c
      have m_s := (o _ (by omega)).trans m_s
      have o1 : Off _ M (c + 120) (c + 121) := fun x hx => o x (by omega)
      have ha := ha.off o1 (by omega)
      have hr2 := hr.2.1.off o1 (by omega)
      have hr3 := hr.2.2.1.off o1 (by omega)
      have hr4 := hr.2.2.2.off o1 (by omega)
      have fr := fr.tr (o1.wd (by omega) (by omega))
      exact g_return dX8_plan_222 rfl (Nat.le_of_ble_eq_true rfl) (Nat.le_of_ble_eq_true rfl) ⟨rfl, rfl, ⟨m_rt, hr2, hr3, hr4⟩, ⟨_, ha⟩, fr⟩
    | succ j ih =>
      intro ex L lo M hj hL he m_c m_s hm hq ha hr fr hp K6 K7 K8 K9
      have m_c : M c = _ := m_c
      obtain ⟨u, m_ca⟩ := ha.obj
      have m_rt := hr.1
      have m_o := hm.obj
      have hjo : (j : Int) ≤ ord ∧ j ≤ n := by unfold nOrd at hj; omega
      have hky : 0 ≤ ck (cx xs n j) ∧ ck (cx xs n j) < 2147483648 := ky_rng (xs := xs) (n := n) (j := j) hx hn hjo.2 (by omega)
      have e0 : (((j + 1 : Nat) : Int) - 1) = (j : Int) := by omega
      have e1 : ((j : Int) + -1) = ((j : Nat) : Int) - 1 := by omega
      rw [e0]
      have ht1 := ht.1
      rcases fnd_cases t (ky xs n j) with ⟨hf, -⟩ | ⟨i, hi, hf, -⟩
      · rw [pln_no (g := fun j => cnO t (ky xs n j)) (cnO_no (by omega))] at hp
        have hf : fnd t (ck (cx xs n j)) = -1 := hf
        refine g_iload dX8_plan_24 rfl ?_
        refine z_if_lt (tgt := 181) dX8_plan_26 (by decide) (by omega) (fun c26 => absurd c26 (by omega)) (fun c26 => ?_)
        refine g_aload_n dX8_plan_29 rfl ?_
        refine z_getf fl_X8_85 dX8_plan_30 m_s rfl ?_
        refine g_aload_n dX8_plan_33 rfl ?_
        refine g_iload_n dX8_plan_34 rfl ?_
        refine g_iload dX8_plan_35 rfl ?_
        refine z_callSR dX8_plan_37 lm_X8_224 lk_X8_contextKey (x_contextKey (j := j) hq hn hjo.2) rfl rfl (mkRoom rfl rfl) (Nat.le_of_ble_eq_true rfl) (Nat.le_of_ble_eq_true rfl) (Nat.le_of_ble_eq_true rfl) ?_
        refine z_callVR dX8_plan_40 lm_X8_228 lk_X4_find (Md_find hm (by omega)) rfl rfl m_o rfl (mkRoom rfl rfl) (Nat.le_of_ble_eq_true rfl) (Nat.le_of_ble_eq_true rfl) (Nat.le_of_ble_eq_true rfl) ?_
        refine g_istore dX8_plan_43 (Nat.le_of_ble_eq_true rfl) ?_
        refine g_iload dX8_plan_45 rfl ?_
        refine z_if_ge (tgt := 53) dX8_plan_47 (by decide) (by omega) (fun c47 => absurd c47 (by omega)) (fun c47 => ?_)
        refine g_goto (tgt := 175) dX8_plan_50 (by decide) ?_
        refine z_iinc dX8_plan_175 rfl (Nat.le_of_ble_eq_true rfl) ?_
        refine g_goto (tgt := 24) dX8_plan_178 (by decide) ?_
        rw [e1]
        exact ih ex L lo M (by omega) (by omega) he m_c m_s hm hq ha hr fr hp _ _ _ _
      · have hc := ht.at hi
        have hcs := hc.cnt hs
        have hsm := hc.smx ex (n := 96) (by omega)
        have hsn := hc.smx ex (n := s) (by omega)
        have hkn := kn_rng t[i].2
        have hf : fnd t (ck (cx xs n j)) = i := hf
        by_cases hh : ex s = false ∧ 0 < t[i].2 s
        · rw [pln_yes (g := fun j => cnO t (ky xs n j)) (cnO_at hf hi) hh] at hp
          rw [← hp]
          refine g_iload dX8_plan_24 rfl ?_
          refine z_if_lt (tgt := 181) dX8_plan_26 (by decide) (by omega) (fun c26 => absurd c26 (by omega)) (fun c26 => ?_)
          refine g_aload_n dX8_plan_29 rfl ?_
          refine z_getf fl_X8_85 dX8_plan_30 m_s rfl ?_
          refine g_aload_n dX8_plan_33 rfl ?_
          refine g_iload_n dX8_plan_34 rfl ?_
          refine g_iload dX8_plan_35 rfl ?_
          refine z_callSR dX8_plan_37 lm_X8_224 lk_X8_contextKey (x_contextKey (j := j) hq hn hjo.2) rfl rfl (mkRoom rfl rfl) (Nat.le_of_ble_eq_true rfl) (Nat.le_of_ble_eq_true rfl) (Nat.le_of_ble_eq_true rfl) ?_
          refine z_callVR dX8_plan_40 lm_X8_228 lk_X4_find (Md_find hm (by omega)) rfl rfl m_o rfl (mkRoom rfl rfl) (Nat.le_of_ble_eq_true rfl) (Nat.le_of_ble_eq_true rfl) (Nat.le_of_ble_eq_true rfl) ?_
          refine G.top (v' := vI (i : Int)) (by rw [← hf]) ?_
          refine g_istore dX8_plan_43 (Nat.le_of_ble_eq_true rfl) ?_
          refine g_iload dX8_plan_45 rfl ?_
          refine z_if_ge (tgt := 53) dX8_plan_47 (by decide) (by omega) (fun c47 => ?_) (fun c47 => absurd c47 (by omega))
          refine g_aload_n dX8_plan_53 rfl ?_
          refine z_getf fl_X8_39 dX8_plan_54 m_c rfl ?_
          refine g_aload_n dX8_plan_57 rfl ?_
          refine z_getf fl_X8_85 dX8_plan_58 m_s rfl ?_
          refine g_iload dX8_plan_61 rfl ?_
          refine z_callVR dX8_plan_63 lm_X8_274 lk_X0_sum (Ca_sum ha hm hi) rfl rfl m_ca rfl (mkRoom rfl rfl) (Nat.le_of_ble_eq_true rfl) (Nat.le_of_ble_eq_true rfl) (Nat.le_of_ble_eq_true rfl) ?_
          refine g_istore dX8_plan_66 (Nat.le_of_ble_eq_true rfl) ?_
          refine g_iload dX8_plan_68 rfl ?_
          refine g_aload_n dX8_plan_70 rfl ?_
          refine z_getf fl_X8_85 dX8_plan_71 m_s rfl ?_
          refine g_iload dX8_plan_74 rfl ?_
          refine z_callVR dX8_plan_76 lm_X8_278 lk_X4_knownIn (Md_knownIn hm hi) rfl rfl m_o rfl (mkRoom rfl rfl) (Nat.le_of_ble_eq_true rfl) (Nat.le_of_ble_eq_true rfl) (Nat.le_of_ble_eq_true rfl) ?_
          refine z_iadd dX8_plan_79 ?_
          refine g_istore dX8_plan_80 (Nat.le_of_ble_eq_true rfl) ?_
          refine g_aload_n dX8_plan_82 rfl ?_
          refine z_getf fl_X8_39 dX8_plan_83 m_c rfl ?_
          refine g_aload_n dX8_plan_86 rfl ?_
          refine z_getf fl_X8_85 dX8_plan_87 m_s rfl ?_
          refine g_iload dX8_plan_90 rfl ?_
          refine g_iload dX8_plan_92 rfl ?_
          refine z_callVR dX8_plan_94 lm_X8_281 lk_X0_holds ((Ca_holds ha hm hi hs).eq (by rw [if_pos hh])) rfl rfl m_ca rfl (mkRoom rfl rfl) (Nat.le_of_ble_eq_true rfl) (Nat.le_of_ble_eq_true rfl) (Nat.le_of_ble_eq_true rfl) ?_
          refine z_if_eq (tgt := 152) dX8_plan_97 (by decide) (by omega) (fun c97 => absurd c97 (by omega)) (fun c97 => ?_)
          refine g_aload_n dX8_plan_100 rfl ?_
          refine z_getf fl_X8_39 dX8_plan_101 m_c rfl ?_
          refine g_aload_n dX8_plan_104 rfl ?_
          refine z_getf fl_X8_85 dX8_plan_105 m_s rfl ?_
          refine g_iload dX8_plan_108 rfl ?_
          refine g_iload dX8_plan_110 rfl ?_
          refine z_callVR dX8_plan_112 lm_X8_285 lk_X0_sumBelow (Ca_sumBelow (n := s) ha hm hi (by omega)) rfl rfl m_ca rfl (mkRoom rfl rfl) (Nat.le_of_ble_eq_true rfl) (Nat.le_of_ble_eq_true rfl) (Nat.le_of_ble_eq_true rfl) ?_
          refine g_istore dX8_plan_115 (Nat.le_of_ble_eq_true rfl) ?_
          refine g_aload_n dX8_plan_117 rfl ?_
          refine z_getf fl_X8_46 dX8_plan_118 m_c rfl ?_
          refine g_iload dX8_plan_121 rfl ?_
          refine g_iload dX8_plan_123 rfl ?_
          refine g_aload_n dX8_plan_125 rfl ?_
          refine z_getf fl_X8_85 dX8_plan_126 m_s rfl ?_
          refine g_iload dX8_plan_129 rfl ?_
          refine g_iload dX8_plan_131 rfl ?_
          refine z_callVR dX8_plan_133 lm_X8_119 lk_X4_countIn (Md_countIn hm hi hs) rfl rfl m_o rfl (mkRoom rfl rfl) (Nat.le_of_ble_eq_true rfl) (Nat.le_of_ble_eq_true rfl) (Nat.le_of_ble_eq_true rfl) ?_
          refine z_iadd dX8_plan_136 ?_
          refine g_iload dX8_plan_137 rfl ?_
          refine z_callVV dX8_plan_139 lm_X8_289 lk_X5_add (Rt_add hr (by first | omega | (simp; omega))) rfl rfl hr.1 rfl (mkRoom rfl rfl) (Nat.le_of_ble_eq_true rfl) (Nat.le_of_ble_eq_true rfl) (Nat.le_of_ble_eq_true rfl) (fun M r hp2 => ?_)
          obtain ⟨rfl, hr, o1⟩ := hp2
          have ha := ha.off o1 (by omega)
          obtain ⟨u, m_ca⟩ := ha.obj
          have m_rt := hr.1
          have m_c := (o1 _ (by omega)).trans m_c
          have m_s := (o1 _ (by omega)).trans m_s
          have hm := hm.off o1 (by omega)
          have hq := hq.off o1 (by omega)
          have fr := fr.tr (o1.wd (by omega) (by omega))
          refine g_aload_n dX8_plan_142 rfl ?_
          refine z_getf fl_X8_46 dX8_plan_143 m_c rfl ?_
          refine g_iload dX8_plan_146 rfl ?_
          refine z_putf fl_X8_265 dX8_plan_148 m_rt rfl (Nat.le_of_ble_eq_true rfl) rfl rfl (fun M m_rt o => ?_)
          have m_c := (o _ (by omega)).trans m_c
          have m_s := (o _ (by omega)).trans m_s
          have o1 : Off _ M (c + 120) (c + 121) := fun x hx => o x (by omega)
          have ha := ha.off o1 (by omega)
          have hr2 := hr.2.1.off o1 (by omega)
          have hr3 := hr.2.2.1.off o1 (by omega)
          have hr4 := hr.2.2.2.off o1 (by omega)
          have fr := fr.tr (o1.wd (by omega) (by omega))
          exact g_return dX8_plan_151 rfl (Nat.le_of_ble_eq_true rfl) (Nat.le_of_ble_eq_true rfl) ⟨rfl, rfl, ⟨m_rt, hr2, hr3, hr4⟩, ⟨_, ha⟩, fr⟩
        · rw [pln_esc (g := fun j => cnO t (ky xs n j)) (cnO_at hf hi) hh] at hp
          refine g_iload dX8_plan_24 rfl ?_
          refine z_if_lt (tgt := 181) dX8_plan_26 (by decide) (by omega) (fun c26 => absurd c26 (by omega)) (fun c26 => ?_)
          refine g_aload_n dX8_plan_29 rfl ?_
          refine z_getf fl_X8_85 dX8_plan_30 m_s rfl ?_
          refine g_aload_n dX8_plan_33 rfl ?_
          refine g_iload_n dX8_plan_34 rfl ?_
          refine g_iload dX8_plan_35 rfl ?_
          refine z_callSR dX8_plan_37 lm_X8_224 lk_X8_contextKey (x_contextKey (j := j) hq hn hjo.2) rfl rfl (mkRoom rfl rfl) (Nat.le_of_ble_eq_true rfl) (Nat.le_of_ble_eq_true rfl) (Nat.le_of_ble_eq_true rfl) ?_
          refine z_callVR dX8_plan_40 lm_X8_228 lk_X4_find (Md_find hm (by omega)) rfl rfl m_o rfl (mkRoom rfl rfl) (Nat.le_of_ble_eq_true rfl) (Nat.le_of_ble_eq_true rfl) (Nat.le_of_ble_eq_true rfl) ?_
          refine G.top (v' := vI (i : Int)) (by rw [← hf]) ?_
          refine g_istore dX8_plan_43 (Nat.le_of_ble_eq_true rfl) ?_
          refine g_iload dX8_plan_45 rfl ?_
          refine z_if_ge (tgt := 53) dX8_plan_47 (by decide) (by omega) (fun c47 => ?_) (fun c47 => absurd c47 (by omega))
          refine g_aload_n dX8_plan_53 rfl ?_
          refine z_getf fl_X8_39 dX8_plan_54 m_c rfl ?_
          refine g_aload_n dX8_plan_57 rfl ?_
          refine z_getf fl_X8_85 dX8_plan_58 m_s rfl ?_
          refine g_iload dX8_plan_61 rfl ?_
          refine z_callVR dX8_plan_63 lm_X8_274 lk_X0_sum (Ca_sum ha hm hi) rfl rfl m_ca rfl (mkRoom rfl rfl) (Nat.le_of_ble_eq_true rfl) (Nat.le_of_ble_eq_true rfl) (Nat.le_of_ble_eq_true rfl) ?_
          refine g_istore dX8_plan_66 (Nat.le_of_ble_eq_true rfl) ?_
          refine g_iload dX8_plan_68 rfl ?_
          refine g_aload_n dX8_plan_70 rfl ?_
          refine z_getf fl_X8_85 dX8_plan_71 m_s rfl ?_
          refine g_iload dX8_plan_74 rfl ?_
          refine z_callVR dX8_plan_76 lm_X8_278 lk_X4_knownIn (Md_knownIn hm hi) rfl rfl m_o rfl (mkRoom rfl rfl) (Nat.le_of_ble_eq_true rfl) (Nat.le_of_ble_eq_true rfl) (Nat.le_of_ble_eq_true rfl) ?_
          refine z_iadd dX8_plan_79 ?_
          refine g_istore dX8_plan_80 (Nat.le_of_ble_eq_true rfl) ?_
          refine g_aload_n dX8_plan_82 rfl ?_
          refine z_getf fl_X8_39 dX8_plan_83 m_c rfl ?_
          refine g_aload_n dX8_plan_86 rfl ?_
          refine z_getf fl_X8_85 dX8_plan_87 m_s rfl ?_
          refine g_iload dX8_plan_90 rfl ?_
          refine g_iload dX8_plan_92 rfl ?_
          refine z_callVR dX8_plan_94 lm_X8_281 lk_X0_holds ((Ca_holds ha hm hi hs).eq (by rw [if_neg hh])) rfl rfl m_ca rfl (mkRoom rfl rfl) (Nat.le_of_ble_eq_true rfl) (Nat.le_of_ble_eq_true rfl) (Nat.le_of_ble_eq_true rfl) ?_
          refine z_if_eq (tgt := 152) dX8_plan_97 (by decide) (by omega) (fun c97 => ?_) (fun c97 => absurd c97 (by omega))
          refine g_aload_n dX8_plan_152 rfl ?_
          refine z_getf fl_X8_46 dX8_plan_153 m_c rfl ?_
          refine g_iload dX8_plan_156 rfl ?_
          refine g_iload dX8_plan_158 rfl ?_
          refine g_iload dX8_plan_160 rfl ?_
          refine z_callVV dX8_plan_162 lm_X8_289 lk_X5_add (Rt_add hr (by first | omega | (simp; omega))) rfl rfl hr.1 rfl (mkRoom rfl rfl) (Nat.le_of_ble_eq_true rfl) (Nat.le_of_ble_eq_true rfl) (Nat.le_of_ble_eq_true rfl) (fun M r hp2 => ?_)
          obtain ⟨rfl, hr, o1⟩ := hp2
          have ha := ha.off o1 (by omega)
          obtain ⟨u, m_ca⟩ := ha.obj
          have m_rt := hr.1
          have m_c := (o1 _ (by omega)).trans m_c
          have m_s := (o1 _ (by omega)).trans m_s
          have hm := hm.off o1 (by omega)
          have hq := hq.off o1 (by omega)
          have fr := fr.tr (o1.wd (by omega) (by omega))
          refine g_aload_n dX8_plan_165 rfl ?_
          refine z_getf fl_X8_39 dX8_plan_166 m_c rfl ?_
          refine g_aload_n dX8_plan_169 rfl ?_
          refine g_iload dX8_plan_170 rfl ?_
          refine z_callVV dX8_plan_172 lm_X8_291 lk_X0_leave (Ca_leave ha hm m_s hS2 hi (by omega) (by omega)) rfl rfl m_ca rfl (mkRoom rfl rfl) (Nat.le_of_ble_eq_true rfl) (Nat.le_of_ble_eq_true rfl) (Nat.le_of_ble_eq_true rfl) (fun M r hp2 => ?_)
          obtain ⟨rfl, ha, o1⟩ := hp2
          have hr := hr.off o1 (by omega)
          have m_c := (o1 _ (by omega)).trans m_c
          have m_s := (o1 _ (by omega)).trans m_s
          have hm := hm.off o1 (by omega)
          have hq := hq.off o1 (by omega)
          have fr := fr.tr (o1.wd (by omega) (by omega))
          refine z_iinc dX8_plan_175 rfl (Nat.le_of_ble_eq_true rfl) ?_
          refine g_goto (tgt := 24) dX8_plan_178 (by decide) ?_
          rw [e1]
          exact ih (lev exc ex t[i].2) _ lo M (by omega) (by simp; omega) (lev_s he hh) m_c m_s hm hq ha hr fr hp _ _ _ _
  have m_rt := hr.1
  obtain ⟨u, m_ca⟩ := ha.obj
  refine g_aload_n dX8_plan_0 rfl ?_
  refine z_getf fl_X8_46 dX8_plan_1 m_c rfl ?_
  refine z_callVV dX8_plan_4 lm_X8_270 lk_X5_clear (Rt_clear hr) rfl rfl hr.1 rfl (mkRoom rfl rfl) (Nat.le_of_ble_eq_true rfl) (Nat.le_of_ble_eq_true rfl) (Nat.le_of_ble_eq_true rfl) (fun M r hp => ?_)
  obtain ⟨rfl, hr, o1⟩ := hp
  have ha := ha.off o1 (by omega)
  obtain ⟨u, m_ca⟩ := ha.obj
  have m_c := (o1 _ (by omega)).trans m_c
  have m_s := (o1 _ (by omega)).trans m_s
  have hm := hm.off o1 (by omega)
  have hq := hq.off o1 (by omega)
  have fr := fr.tr (o1.wd (by omega) (by omega))
  refine g_aload_n dX8_plan_7 rfl ?_
  refine z_getf fl_X8_39 dX8_plan_8 m_c rfl ?_
  refine z_callVV dX8_plan_11 lm_X8_271 lk_X0_restart (Ca_restart ha) rfl rfl m_ca rfl (mkRoom rfl rfl) (Nat.le_of_ble_eq_true rfl) (Nat.le_of_ble_eq_true rfl) (Nat.le_of_ble_eq_true rfl) (fun M r hp => ?_)
  obtain ⟨rfl, ha, o1⟩ := hp
  have hr := hr.off o1 (by omega)
  have m_c := (o1 _ (by omega)).trans m_c
  have m_s := (o1 _ (by omega)).trans m_s
  have hm := hm.off o1 (by omega)
  have hq := hq.off o1 (by omega)
  have fr := fr.tr (o1.wd (by omega) (by omega))
  refine g_aload_n dX8_plan_14 rfl ?_
  refine z_getf fl_X8_73 dX8_plan_15 m_s rfl ?_
  refine g_iload_n dX8_plan_18 rfl ?_
  refine z_min lj_X8_64 dX8_plan_19 ⟨(Nat.le_of_ble_eq_true rfl), (Nat.le_of_ble_eq_true rfl)⟩ (Nat.le_of_ble_eq_true rfl) (Nat.le_of_ble_eq_true rfl) (by omega) (by omega) ?_
  refine g_istore dX8_plan_22 (Nat.le_of_ble_eq_true rfl) ?_
  have e2 : min ord (n : Int) = ((nOrd ord n : Nat) : Int) - 1 := by unfold nOrd; omega
  rw [e2]
  exact loop (nOrd ord n) _ [] _ M (Nat.le_refl _) (by unfold nOrd; simp; omega) rfl m_c m_s hm hq ha hr fr rfl _ _ _ _
