/-! a symbol is decoded, on trial -/
def rdp (g : Nat → Option (Nat → Int)) (exc : Int) (cs : List Int) : Nat → (Nat → Bool) → ds → Int × ds
  | 0, ex, d => if cnx ex 96 < 1 then (-1, d) else (fi (fun s => decide (dnum d (cnx ex 96) < cnx ex (s + 1))) 96, div_ cs d (dnum d (cnx ex 96), dnum d (cnx ex 96) + 1, cnx ex 96))
  | n + 1, ex, d => match g n with
    | none => rdp g exc cs n ex d
    | some c => if dnum d (smx ex c 96 + kn c) < smx ex c 96 then (fi (fun s => decide (dnum d (smx ex c 96 + kn c) < smx ex c (s + 1))) 96, div_ cs d (smx ex c (fi (fun s => decide (dnum d (smx ex c 96 + kn c) < smx ex c (s + 1))) 96).toNat, smx ex c (fi (fun s => decide (dnum d (smx ex c 96 + kn c) < smx ex c (s + 1))) 96).toNat + c (fi (fun s => decide (dnum d (smx ex c 96 + kn c) < smx ex c (s + 1))) 96).toNat, smx ex c 96 + kn c)) else rdp g exc cs n (lev exc ex c) (div_ cs d (smx ex c 96, smx ex c 96 + kn c, smx ex c 96 + kn c))
theorem fi_or (f : Nat → Int) (x : Int) : ∀ n : Nat, (∃ s : Nat, s < n ∧ x < f (s + 1) ∧ ∀ j, j < s → f (j + 1) ≤ x) ∨ ∀ j, j < n → f (j + 1) ≤ x
  | 0 => Or.inr (fun j hj => absurd hj (Nat.not_lt_zero _))
  | n + 1 => by
    rcases fi_or f x n with ⟨s, h1, h2, h3⟩ | h
    · exact Or.inl ⟨s, by omega, h2, h3⟩
    · by_cases hx : x < f (n + 1)
      · exact Or.inl ⟨n, by omega, hx, h⟩
      · refine Or.inr (fun j hj => ?_)
        by_cases e : j = n
        · subst e; omega
        · exact h j (by omega)
theorem fi_step {f : Nat → Int} {x : Int} (h0 : f 0 ≤ x) {n : Nat} (hx : x < f n) : ∃ s : Nat, s < n ∧ fi (fun s => decide (x < f (s + 1))) n = (s : Int) ∧ f s ≤ x ∧ x < f (s + 1) := by
  rcases fi_or f x n with ⟨s, h1, h2, h3⟩ | h
  · refine ⟨s, h1, fi_at h1 (by simpa using h2) (fun j hj => by have := h3 j hj; simp; omega), ?_, h2⟩
    cases s with
    | zero => exact h0
    | succ s => exact h3 s (by omega)
  · exfalso
    cases n with
    | zero => omega
    | succ n => have := h n (by omega); omega
theorem fi_smx {ex : Nat → Bool} {c : Nat → Int} {x : Int} (hx : 0 ≤ x ∧ x < smx ex c 96) : ∃ s : Nat, s < 96 ∧ fi (fun s => decide (x < smx ex c (s + 1))) 96 = (s : Int) ∧ smx ex c s ≤ x ∧ x < smx ex c s + c s ∧ ex s = false := by
  obtain ⟨s, h1, h2, h3, h4⟩ := fi_step (f := smx ex c) (x := x) (n := 96) (by show (0 : Int) ≤ x; exact hx.1) hx.2
  rw [smx_s] at h4
  cases he : ex s with
  | true => rw [he, if_pos rfl] at h4; omega
  | false => rw [he, if_neg (by decide)] at h4; exact ⟨s, h1, h2, h3, h4, he⟩
theorem fi_cnx {ex : Nat → Bool} {x : Int} (hx : 0 ≤ x ∧ x < cnx ex 96) : ∃ s : Nat, s < 96 ∧ fi (fun s => decide (x < cnx ex (s + 1))) 96 = (s : Int) ∧ cnx ex s = x ∧ ex s = false := by
  obtain ⟨s, h1, h2, h3, h4⟩ := fi_step (f := cnx ex) (x := x) (n := 96) (by show (0 : Int) ≤ x; exact hx.1) hx.2
  rw [cnx_s] at h4
  cases he : ex s with
  | true => rw [he, if_pos rfl] at h4; omega
  | false => rw [he, if_neg (by decide)] at h4; exact ⟨s, h1, h2, by omega, he⟩
theorem dnum_rng {d : ds} {n : Nat} {t : Int} (h : okD d n) (ht : 1 ≤ t ∧ t ≤ 65536) : 0 ≤ dnum d t ∧ dnum d t < t := by
  obtain ⟨h1, h2, h3⟩ := h
  have hq : 256 ≤ d.2.2 / t := by rw [Int.le_ediv_iff_mul_le (by omega)]; omega
  have hd1 : 0 ≤ d.2.1 / (d.2.2 / t) := Int.ediv_nonneg h2.1 (by omega)
  unfold dnum
  omega
theorem okD.mono {d : ds} {n m : Nat} (h : okD d n) (hm : n ≤ m) : okD d m := ⟨by have := h.1; omega, h.2⟩
def rd (t : tbl) (xs : List Int) (n : Nat) (exc ord : Int) (cs : List Int) (d : ds) : Int × ds := rdp (fun j => cnO t (ky xs n j)) exc cs (nOrd ord n) (fun _ => false) d
theorem rdp_ok {g : Nat → Option (Nat → Int)} {exc : Int} {cs : List Int} (hb : okB cs) (hg : ∀ n c, g n = some c → okC c) : ∀ (n : Nat) (ex : Nat → Bool) (d : ds) (m : Nat), okD d m → okD (rdp g exc cs n ex d).2 (m + 4 * n + 4) ∧ -1 ≤ (rdp g exc cs n ex d).1 ∧ (rdp g exc cs n ex d).1 < 96
  | 0, ex, d, m, hd => by
    rw [rdp]
    have hc := cnx_rng ex 96
    split
    · exact ⟨hd.mono (by omega), by dsimp only; omega, by dsimp only; omega⟩
    · next h =>
      have hr := dnum_rng hd (t := cnx ex 96) (by omega)
      obtain ⟨s, h1, h2, h3, h4⟩ := fi_cnx hr
      dsimp only
      rw [h2]
      exact ⟨(okD_div hb hd (x := (dnum d (cnx ex 96), dnum d (cnx ex 96) + 1, cnx ex 96)) ⟨hr.1, by dsimp only; omega, by dsimp only; omega, by dsimp only; omega⟩ ⟨by dsimp only; omega, by dsimp only; omega⟩).mono (by omega), by omega, by omega⟩
  | n + 1, ex, d, m, hd => by
    rw [rdp]
    cases hn : g n with
    | none =>
      dsimp only
      have := rdp_ok (exc := exc) hb hg n ex d m hd
      exact ⟨this.1.mono (by omega), this.2⟩
    | some c =>
      dsimp only
      have hc := hg n c hn
      have hw := hc.smx ex (n := 96) (by omega)
      have hk := kn_rng c
      have hk1 := hc.2.2
      have hr := dnum_rng hd (t := smx ex c 96 + kn c) (by omega)
      split
      · next h =>
        obtain ⟨s, h1, h2, h3, h4, h5⟩ := fi_smx (ex := ex) (c := c) (x := dnum d (smx ex c 96 + kn c)) ⟨hr.1, h⟩
        dsimp only
        rw [h2, Int.toNat_natCast]
        exact ⟨(okD_div hb hd (okI_sym hc h1 h5 (by omega)) ⟨h3, h4⟩).mono (by omega), by omega, by omega⟩
      · next h =>
        have h2 := okD_div hb hd (okI_esc (ex := ex) hc) ⟨by dsimp only; omega, by dsimp only; omega⟩
        have := rdp_ok (exc := exc) hb hg n (lev exc ex c) _ _ h2
        exact ⟨this.1.mono (by omega), this.2⟩
def OfR (c : Nat) (M M' : pM) : Prop := ∀ x : Nat, ¬ ((c + 118 ≤ x ∧ x < c + 120) ∨ x = c + 130) → M' x = M x
theorem OfR.rf {c : Nat} {M : pM} : OfR c M M := fun _ _ => rfl
theorem OfR.add {c lo hi : Nat} {M M1 M2 : pM} (h : OfR c M M1) (h2 : Off M1 M2 lo hi) (hd : (c + 118 ≤ lo ∧ hi ≤ c + 120) ∨ (lo = c + 130 ∧ hi = c + 131)) : OfR c M M2 := fun x hx => (h2 x (by omega)).trans (h x hx)
set_option maxHeartbeats 1000000 in
theorem x_readSymbol {M : pM} {z c n m : Nat} {kept ord exc stp lim : Int} {r1 r2 r3 : Value} {t : tbl} {xs cs : List Int} {d : ds} {ex : Nat → Bool} (m_c : Cc M c kept) (m_s : M (c + 20) = some (ob 7 [vI ord, vI exc, vI stp, vI lim, .ref (c + 21), r1, r2, r3])) (hm : Md M (c + 21) t) (ht : okT t) (hS : okS ord exc stp lim) (hq : Rw M (c + 37) 200 xs) (hx : okX xs) (hn : n ≤ xs.length) (ha : Ca M (c + 118) ex) (hd : De M (c + 130) (c + 7) d) (hk : okD d m) (hmm : m ≤ 90000) (hc : Rw M (c + 7) 400 cs) (hb : okB cs) : CW I_X8_readSymbol yX8_readSymbol [.ref c, .ref (c + 37), vI (n : Int)] M z (fun M' r => r = some (vI (rd t xs n exc ord cs d).1) ∧ De M' (c + 130) (c + 7) (rd t xs n exc ord cs d).2 ∧ (∃ ex, Ca M' (c + 118) ex) ∧ OfR c M M') := by
  obtain ⟨hS1, hS2, hS3, hS4⟩ := id hS
  have m_c : M c = _ := m_c
  have fr : OfR c M M := OfR.rf
  have hql := hq.len
  refine C.intro (pl := [some (.ref c), some (.ref (c + 37)), some (vI (n : Int)), none, none, none, none, none, none, none, none]) pn_X8 rfl (fun h => absurd h (by decide)) rfl (Nat.le_of_ble_eq_true rfl) rfl ?_
  have loop : ∀ (j : Nat) (ex : Nat → Bool) (d1 : ds) (m1 : Nat) (M1 : pM), j ≤ nOrd ord n → m1 + 4 * j ≤ 90016 → okD d1 m1 → Cc M1 c kept → M1 (c + 20) = some (ob 7 [vI ord, vI exc, vI stp, vI lim, .ref (c + 21), r1, r2, r3]) → Md M1 (c + 21) t → Rw M1 (c + 37) 200 xs → Ca M1 (c + 118) ex → De M1 (c + 130) (c + 7) d1 → Rw M1 (c + 7) 400 cs → OfR c M M1 → rdp (fun j => cnO t (ky xs n j)) exc cs j ex d1 = rd t xs n exc ord cs d → ∀ (K5 K6 K7 K8 K9 K10 : Option Value), G I_X8_readSymbol 0 0 (fun M' z' r' => z' = z ∧ r' = some (vI (rd t xs n exc ord cs d).1) ∧ De M' (c + 130) (c + 7) (rd t xs n exc ord cs d).2 ∧ (∃ ex, Ca M' (c + 118) ex) ∧ OfR c M M') 0 0 28 [some (.ref c), some (.ref (c + 37)), some (vI (n : Int)), some (.ref (c + 21)), some (vI ((j : Int) - 1)), K5, K6, K7, K8, K9, K10] [] M1 z := by
    intro j
    induction j with
    | zero =>
      intro ex d1 m1 M hj hm1 hk m_c m_s hm hq ha hd hc fr hp0 K5 K6 K7 K8 K9 K10
      have m_c : M c = _ := m_c
      obtain ⟨u, m_ca⟩ := ha.obj
      have m_de : M (c + 130) = _ := hd
      have hcn := cnx_rng ex 96
      rw [rdp] at hp0
      by_cases hz : cnx ex 96 < 1
      · rw [if_pos hz] at hp0
        rw [← hp0]
        refine g_iload dX8_readSymbol_28 rfl ?_
        refine z_if_lt (tgt := 180) dX8_readSymbol_30 (by decide) (by omega) (fun c30 => ?_) (fun c30 => absurd c30 (by omega))
        refine g_aload_n dX8_readSymbol_180 rfl ?_
        refine z_getf fl_X8_39 dX8_readSymbol_181 m_c rfl ?_
        refine z_bipush dX8_readSymbol_184 (by decide +kernel) ?_
        refine z_callVR dX8_readSymbol_186 lm_X8_295 lk_X0_remainingBelow (Ca_remainingBelow (n := 96) ha (by omega)) rfl rfl m_ca rfl (mkRoom rfl rfl) (Nat.le_of_ble_eq_true rfl) (Nat.le_of_ble_eq_true rfl) (Nat.le_of_ble_eq_true rfl) ?_
        refine g_istore dX8_readSymbol_189 (Nat.le_of_ble_eq_true rfl) ?_
        refine g_iload dX8_readSymbol_191 rfl ?_
        refine z_iconst dX8_readSymbol_193 ?_
        refine z_icmp_ge (tgt := 199) dX8_readSymbol_194 (by decide) (by omega) (by omega) (fun c194 => absurd c194 (by omega)) (fun c194 => ?_)
        refine z_iconst dX8_readSymbol_197 ?_
        exact g_ireturn dX8_readSymbol_198 rfl (Nat.le_of_ble_eq_true rfl) (Nat.le_of_ble_eq_true rfl) ⟨rfl, rfl, hd, ⟨_, ha⟩, fr⟩
      · rw [if_neg hz] at hp0
        rw [← hp0]
        have hr := dnum_rng hk (t := cnx ex 96) (by omega)
        refine g_iload dX8_readSymbol_28 rfl ?_
        refine z_if_lt (tgt := 180) dX8_readSymbol_30 (by decide) (by omega) (fun c30 => ?_) (fun c30 => absurd c30 (by omega))
        refine g_aload_n dX8_readSymbol_180 rfl ?_
        refine z_getf fl_X8_39 dX8_readSymbol_181 m_c rfl ?_
        refine z_bipush dX8_readSymbol_184 (by decide +kernel) ?_
        refine z_callVR dX8_readSymbol_186 lm_X8_295 lk_X0_remainingBelow (Ca_remainingBelow (n := 96) ha (by omega)) rfl rfl m_ca rfl (mkRoom rfl rfl) (Nat.le_of_ble_eq_true rfl) (Nat.le_of_ble_eq_true rfl) (Nat.le_of_ble_eq_true rfl) ?_
        refine g_istore dX8_readSymbol_189 (Nat.le_of_ble_eq_true rfl) ?_
        refine g_iload dX8_readSymbol_191 rfl ?_
        refine z_iconst dX8_readSymbol_193 ?_
        refine z_icmp_ge (tgt := 199) dX8_readSymbol_194 (by decide) (by omega) (by omega) (fun c194 => ?_) (fun c194 => absurd c194 (by omega))
        refine g_aload_n dX8_readSymbol_199 rfl ?_
        refine z_getf fl_X8_60 dX8_readSymbol_200 m_c rfl ?_
        refine g_iload dX8_readSymbol_203 rfl ?_
        refine z_callVR dX8_readSymbol_205 lm_X8_305 lk_X1_number (De_number hd hk (by omega)) rfl rfl hd rfl (mkRoom rfl rfl) (Nat.le_of_ble_eq_true rfl) (Nat.le_of_ble_eq_true rfl) (Nat.le_of_ble_eq_true rfl) ?_
        refine g_istore dX8_readSymbol_208 (Nat.le_of_ble_eq_true rfl) ?_
        refine g_aload_n dX8_readSymbol_210 rfl ?_
        refine z_getf fl_X8_60 dX8_readSymbol_211 m_c rfl ?_
        refine g_iload dX8_readSymbol_214 rfl ?_
        refine g_iload dX8_readSymbol_216 rfl ?_
        refine z_iconst dX8_readSymbol_218 ?_
        refine z_iadd dX8_readSymbol_219 ?_
        refine g_iload dX8_readSymbol_220 rfl ?_
        refine z_callVV dX8_readSymbol_222 lm_X8_311 lk_X1_interval (De_interval (a := dnum d1 (cnx ex 96)) (b := dnum d1 (cnx ex 96) + 1) (t := cnx ex 96) hd hc hb (by omega) hk (by omega) (⟨hr.1, by dsimp only; omega, by dsimp only; omega, by dsimp only; omega⟩) (by omega)) rfl rfl hd rfl (mkRoom rfl rfl) (Nat.le_of_ble_eq_true rfl) (Nat.le_of_ble_eq_true rfl) (Nat.le_of_ble_eq_true rfl) (fun M r hp => ?_)
        obtain ⟨rfl, hd, o1⟩ := hp
        have m_c := (o1 _ (by omega)).trans m_c
        have m_s := (o1 _ (by omega)).trans m_s
        have hm := hm.off o1 (by omega)
        have hq := hq.off o1 (by omega)
        have hc := hc.off o1 (by omega)
        have ha := ha.off o1 (by omega)
        obtain ⟨u, m_ca⟩ := ha.obj
        have fr := fr.add o1 (by omega)
        refine g_aload_n dX8_readSymbol_225 rfl ?_
        refine z_getf fl_X8_39 dX8_readSymbol_226 m_c rfl ?_
        refine g_iload dX8_readSymbol_229 rfl ?_
        refine z_callVR dX8_readSymbol_231 lm_X8_312 lk_X0_remainingAt (Ca_remainingAt ha (by omega)) rfl rfl m_ca rfl (mkRoom rfl rfl) (Nat.le_of_ble_eq_true rfl) (Nat.le_of_ble_eq_true rfl) (Nat.le_of_ble_eq_true rfl) ?_
        exact g_ireturn dX8_readSymbol_234 rfl (Nat.le_of_ble_eq_true rfl) (Nat.le_of_ble_eq_true rfl) (by dsimp only; exact ⟨rfl, rfl, hd, ⟨_, ha⟩, fr⟩)
    | succ j ih =>
      intro ex d1 m1 M hj hm1 hk m_c m_s hm hq ha hd hc fr hp0 K5 K6 K7 K8 K9 K10
      have m_c : M c = _ := m_c
      obtain ⟨u, m_ca⟩ := ha.obj
      have m_o := hm.obj
      have hjo : (j : Int) ≤ ord ∧ j ≤ n := by unfold nOrd at hj; omega
      have hky : 0 ≤ ck (cx xs n j) ∧ ck (cx xs n j) < 2147483648 := ky_rng (xs := xs) (n := n) (j := j) hx hn hjo.2 (by omega)
      have e0 : (((j + 1 : Nat) : Int) - 1) = (j : Int) := by omega
      have e1 : ((j : Int) + -1) = ((j : Nat) : Int) - 1 := by omega
      rw [e0]
      have ht1 := ht.1
      rw [rdp] at hp0
      rcases fnd_cases t (ky xs n j) with ⟨hf, -⟩ | ⟨i, hi, hf, -⟩
      · rw [cnO_no (by omega)] at hp0
        have hf : fnd t (ck (cx xs n j)) = -1 := hf
        refine g_iload dX8_readSymbol_28 rfl ?_
        refine z_if_lt (tgt := 180) dX8_readSymbol_30 (by decide) (by omega) (fun c30 => absurd c30 (by omega)) (fun c30 => ?_)
        refine g_aload_n dX8_readSymbol_33 rfl ?_
        refine g_aload_n dX8_readSymbol_34 rfl ?_
        refine g_iload_n dX8_readSymbol_35 rfl ?_
        refine g_iload dX8_readSymbol_36 rfl ?_
        refine z_callSR dX8_readSymbol_38 lm_X8_224 lk_X8_contextKey (x_contextKey (j := j) hq hn hjo.2) rfl rfl (mkRoom rfl rfl) (Nat.le_of_ble_eq_true rfl) (Nat.le_of_ble_eq_true rfl) (Nat.le_of_ble_eq_true rfl) ?_
        refine z_callVR dX8_readSymbol_41 lm_X8_228 lk_X4_find (Md_find hm (by omega)) rfl rfl m_o rfl (mkRoom rfl rfl) (Nat.le_of_ble_eq_true rfl) (Nat.le_of_ble_eq_true rfl) (Nat.le_of_ble_eq_true rfl) ?_
        refine g_istore dX8_readSymbol_44 (Nat.le_of_ble_eq_true rfl) ?_
        refine g_iload dX8_readSymbol_46 rfl ?_
        refine z_if_ge (tgt := 54) dX8_readSymbol_48 (by decide) (by omega) (fun c48 => absurd c48 (by omega)) (fun c48 => ?_)
        refine g_goto (tgt := 174) dX8_readSymbol_51 (by decide) ?_
        refine z_iinc dX8_readSymbol_174 rfl (Nat.le_of_ble_eq_true rfl) ?_
        refine g_goto (tgt := 28) dX8_readSymbol_177 (by decide) ?_
        rw [e1]
        exact ih ex d1 m1 M (by omega) (by omega) hk m_c m_s hm hq ha hd hc fr hp0 _ _ _ _ _ _
      · rw [cnO_at hf hi] at hp0
        dsimp only at hp0
        have hcc := ht.at hi
        have hsm := hcc.smx ex (n := 96) (by omega)
        have hkn := kn_rng t[i].2
        have hk1 := hcc.2.2
        have hf : fnd t (ck (cx xs n j)) = i := hf
        have hr := dnum_rng hk (t := smx ex t[i].2 96 + kn t[i].2) (by omega)
        by_cases hh : dnum d1 (smx ex t[i].2 96 + kn t[i].2) < smx ex t[i].2 96
        · rw [if_pos hh] at hp0
          obtain ⟨s, s1, s2, s3, s4, s5⟩ := fi_smx (ex := ex) (c := t[i].2) (x := dnum d1 (smx ex t[i].2 96 + kn t[i].2)) ⟨hr.1, hh⟩
          rw [s2, Int.toNat_natCast] at hp0
          rw [← hp0]
          have hcs := hcc.cnt s1
          have hss := hcc.smx ex (n := s) (by omega)
          refine g_iload dX8_readSymbol_28 rfl ?_
          refine z_if_lt (tgt := 180) dX8_readSymbol_30 (by decide) (by omega) (fun c30 => absurd c30 (by omega)) (fun c30 => ?_)
          refine g_aload_n dX8_readSymbol_33 rfl ?_
          refine g_aload_n dX8_readSymbol_34 rfl ?_
          refine g_iload_n dX8_readSymbol_35 rfl ?_
          refine g_iload dX8_readSymbol_36 rfl ?_
          refine z_callSR dX8_readSymbol_38 lm_X8_224 lk_X8_contextKey (x_contextKey (j := j) hq hn hjo.2) rfl rfl (mkRoom rfl rfl) (Nat.le_of_ble_eq_true rfl) (Nat.le_of_ble_eq_true rfl) (Nat.le_of_ble_eq_true rfl) ?_
          refine z_callVR dX8_readSymbol_41 lm_X8_228 lk_X4_find (Md_find hm (by omega)) rfl rfl m_o rfl (mkRoom rfl rfl) (Nat.le_of_ble_eq_true rfl) (Nat.le_of_ble_eq_true rfl) (Nat.le_of_ble_eq_true rfl) ?_
          refine G.top (v' := vI (i : Int)) (by rw [← hf]) ?_
          refine g_istore dX8_readSymbol_44 (Nat.le_of_ble_eq_true rfl) ?_
          refine g_iload dX8_readSymbol_46 rfl ?_
          refine z_if_ge (tgt := 54) dX8_readSymbol_48 (by decide) (by omega) (fun c48 => ?_) (fun c48 => absurd c48 (by omega))
          refine g_aload_n dX8_readSymbol_54 rfl ?_
          refine z_getf fl_X8_39 dX8_readSymbol_55 m_c rfl ?_
          refine g_aload_n dX8_readSymbol_58 rfl ?_
          refine g_iload dX8_readSymbol_59 rfl ?_
          refine z_callVR dX8_readSymbol_61 lm_X8_274 lk_X0_sum (Ca_sum ha hm hi) rfl rfl m_ca rfl (mkRoom rfl rfl) (Nat.le_of_ble_eq_true rfl) (Nat.le_of_ble_eq_true rfl) (Nat.le_of_ble_eq_true rfl) ?_
          refine g_istore dX8_readSymbol_64 (Nat.le_of_ble_eq_true rfl) ?_
          refine g_iload dX8_readSymbol_66 rfl ?_
          refine g_aload_n dX8_readSymbol_68 rfl ?_
          refine g_iload dX8_readSymbol_69 rfl ?_
          refine z_callVR dX8_readSymbol_71 lm_X8_278 lk_X4_knownIn (Md_knownIn hm hi) rfl rfl m_o rfl (mkRoom rfl rfl) (Nat.le_of_ble_eq_true rfl) (Nat.le_of_ble_eq_true rfl) (Nat.le_of_ble_eq_true rfl) ?_
          refine z_iadd dX8_readSymbol_74 ?_
          refine g_istore dX8_readSymbol_75 (Nat.le_of_ble_eq_true rfl) ?_
          refine g_aload_n dX8_readSymbol_77 rfl ?_
          refine z_getf fl_X8_60 dX8_readSymbol_78 m_c rfl ?_
          refine g_iload dX8_readSymbol_81 rfl ?_
          refine z_callVR dX8_readSymbol_83 lm_X8_305 lk_X1_number (De_number hd hk (by omega)) rfl rfl hd rfl (mkRoom rfl rfl) (Nat.le_of_ble_eq_true rfl) (Nat.le_of_ble_eq_true rfl) (Nat.le_of_ble_eq_true rfl) ?_
          refine g_istore dX8_readSymbol_86 (Nat.le_of_ble_eq_true rfl) ?_
          refine g_iload dX8_readSymbol_88 rfl ?_
          refine g_iload dX8_readSymbol_90 rfl ?_
          refine z_icmp_ge (tgt := 148) dX8_readSymbol_92 (by decide) (by omega) (by omega) (fun c92 => absurd c92 (by omega)) (fun c92 => ?_)
          refine g_aload_n dX8_readSymbol_95 rfl ?_
          refine z_getf fl_X8_39 dX8_readSymbol_96 m_c rfl ?_
          refine g_aload_n dX8_readSymbol_99 rfl ?_
          refine g_iload dX8_readSymbol_100 rfl ?_
          refine g_iload dX8_readSymbol_102 rfl ?_
          refine z_callVR dX8_readSymbol_104 lm_X8_308 lk_X0_symbolAt ((Ca_symbolAt ha hm hi (by omega)).eq (by rw [s2])) rfl rfl m_ca rfl (mkRoom rfl rfl) (Nat.le_of_ble_eq_true rfl) (Nat.le_of_ble_eq_true rfl) (Nat.le_of_ble_eq_true rfl) ?_
          refine g_istore dX8_readSymbol_107 (Nat.le_of_ble_eq_true rfl) ?_
          refine g_aload_n dX8_readSymbol_109 rfl ?_
          refine z_getf fl_X8_39 dX8_readSymbol_110 m_c rfl ?_
          refine g_aload_n dX8_readSymbol_113 rfl ?_
          refine g_iload dX8_readSymbol_114 rfl ?_
          refine g_iload dX8_readSymbol_116 rfl ?_
          refine z_callVR dX8_readSymbol_118 lm_X8_285 lk_X0_sumBelow (Ca_sumBelow (n := s) ha hm hi (by omega)) rfl rfl m_ca rfl (mkRoom rfl rfl) (Nat.le_of_ble_eq_true rfl) (Nat.le_of_ble_eq_true rfl) (Nat.le_of_ble_eq_true rfl) ?_
          refine g_istore dX8_readSymbol_121 (Nat.le_of_ble_eq_true rfl) ?_
          refine g_aload_n dX8_readSymbol_123 rfl ?_
          refine z_getf fl_X8_60 dX8_readSymbol_124 m_c rfl ?_
          refine g_iload dX8_readSymbol_127 rfl ?_
          refine g_iload dX8_readSymbol_129 rfl ?_
          refine g_aload_n dX8_readSymbol_131 rfl ?_
          refine g_iload dX8_readSymbol_132 rfl ?_
          refine g_iload dX8_readSymbol_134 rfl ?_
          refine z_callVR dX8_readSymbol_136 lm_X8_119 lk_X4_countIn (Md_countIn hm hi s1) rfl rfl m_o rfl (mkRoom rfl rfl) (Nat.le_of_ble_eq_true rfl) (Nat.le_of_ble_eq_true rfl) (Nat.le_of_ble_eq_true rfl) ?_
          refine z_iadd dX8_readSymbol_139 ?_
          refine g_iload dX8_readSymbol_140 rfl ?_
          refine z_callVV dX8_readSymbol_142 lm_X8_311 lk_X1_interval (De_interval hd hc hb (by omega) hk (by omega) (okI_sym hcc s1 s5 (by omega)) (⟨s3, s4⟩)) rfl rfl hd rfl (mkRoom rfl rfl) (Nat.le_of_ble_eq_true rfl) (Nat.le_of_ble_eq_true rfl) (Nat.le_of_ble_eq_true rfl) (fun M r hp => ?_)
          obtain ⟨rfl, hd, o1⟩ := hp
          have m_c := (o1 _ (by omega)).trans m_c
          have m_s := (o1 _ (by omega)).trans m_s
          have hm := hm.off o1 (by omega)
          have hq := hq.off o1 (by omega)
          have hc := hc.off o1 (by omega)
          have ha := ha.off o1 (by omega)
          obtain ⟨u, m_ca⟩ := ha.obj
          have fr := fr.add o1 (by omega)
          refine g_iload dX8_readSymbol_145 rfl ?_
          exact g_ireturn dX8_readSymbol_147 rfl (Nat.le_of_ble_eq_true rfl) (Nat.le_of_ble_eq_true rfl) (by dsimp only; exact ⟨rfl, rfl, hd, ⟨_, ha⟩, fr⟩)
        · rw [if_neg hh] at hp0
          have hk2 := okD_div hb hk (okI_esc (ex := ex) hcc) ⟨by dsimp only; omega, by dsimp only; omega⟩
          have m_tr := m_s
          refine g_iload dX8_readSymbol_28 rfl ?_
          refine z_if_lt (tgt := 180) dX8_readSymbol_30 (by decide) (by omega) (fun c30 => absurd c30 (by omega)) (fun c30 => ?_)
          refine g_aload_n dX8_readSymbol_33 rfl ?_
          refine g_aload_n dX8_readSymbol_34 rfl ?_
          refine g_iload_n dX8_readSymbol_35 rfl ?_
          refine g_iload dX8_readSymbol_36 rfl ?_
          refine z_callSR dX8_readSymbol_38 lm_X8_224 lk_X8_contextKey (x_contextKey (j := j) hq hn hjo.2) rfl rfl (mkRoom rfl rfl) (Nat.le_of_ble_eq_true rfl) (Nat.le_of_ble_eq_true rfl) (Nat.le_of_ble_eq_true rfl) ?_
          refine z_callVR dX8_readSymbol_41 lm_X8_228 lk_X4_find (Md_find hm (by omega)) rfl rfl m_o rfl (mkRoom rfl rfl) (Nat.le_of_ble_eq_true rfl) (Nat.le_of_ble_eq_true rfl) (Nat.le_of_ble_eq_true rfl) ?_
          refine G.top (v' := vI (i : Int)) (by rw [← hf]) ?_
          refine g_istore dX8_readSymbol_44 (Nat.le_of_ble_eq_true rfl) ?_
          refine g_iload dX8_readSymbol_46 rfl ?_
          refine z_if_ge (tgt := 54) dX8_readSymbol_48 (by decide) (by omega) (fun c48 => ?_) (fun c48 => absurd c48 (by omega))
          refine g_aload_n dX8_readSymbol_54 rfl ?_
          refine z_getf fl_X8_39 dX8_readSymbol_55 m_c rfl ?_
          refine g_aload_n dX8_readSymbol_58 rfl ?_
          refine g_iload dX8_readSymbol_59 rfl ?_
          refine z_callVR dX8_readSymbol_61 lm_X8_274 lk_X0_sum (Ca_sum ha hm hi) rfl rfl m_ca rfl (mkRoom rfl rfl) (Nat.le_of_ble_eq_true rfl) (Nat.le_of_ble_eq_true rfl) (Nat.le_of_ble_eq_true rfl) ?_
          refine g_istore dX8_readSymbol_64 (Nat.le_of_ble_eq_true rfl) ?_
          refine g_iload dX8_readSymbol_66 rfl ?_
          refine g_aload_n dX8_readSymbol_68 rfl ?_
          refine g_iload dX8_readSymbol_69 rfl ?_
          refine z_callVR dX8_readSymbol_71 lm_X8_278 lk_X4_knownIn (Md_knownIn hm hi) rfl rfl m_o rfl (mkRoom rfl rfl) (Nat.le_of_ble_eq_true rfl) (Nat.le_of_ble_eq_true rfl) (Nat.le_of_ble_eq_true rfl) ?_
          refine z_iadd dX8_readSymbol_74 ?_
          refine g_istore dX8_readSymbol_75 (Nat.le_of_ble_eq_true rfl) ?_
          refine g_aload_n dX8_readSymbol_77 rfl ?_
          refine z_getf fl_X8_60 dX8_readSymbol_78 m_c rfl ?_
          refine g_iload dX8_readSymbol_81 rfl ?_
          refine z_callVR dX8_readSymbol_83 lm_X8_305 lk_X1_number (De_number hd hk (by omega)) rfl rfl hd rfl (mkRoom rfl rfl) (Nat.le_of_ble_eq_true rfl) (Nat.le_of_ble_eq_true rfl) (Nat.le_of_ble_eq_true rfl) ?_
          refine g_istore dX8_readSymbol_86 (Nat.le_of_ble_eq_true rfl) ?_
          refine g_iload dX8_readSymbol_88 rfl ?_
          refine g_iload dX8_readSymbol_90 rfl ?_
          refine z_icmp_ge (tgt := 148) dX8_readSymbol_92 (by decide) (by omega) (by omega) (fun c92 => ?_) (fun c92 => absurd c92 (by omega))
          refine g_aload_n dX8_readSymbol_148 rfl ?_
          refine z_getf fl_X8_60 dX8_readSymbol_149 m_c rfl ?_
          refine g_iload dX8_readSymbol_152 rfl ?_
          refine g_iload dX8_readSymbol_154 rfl ?_
          refine g_iload dX8_readSymbol_156 rfl ?_
          refine z_callVV dX8_readSymbol_158 lm_X8_311 lk_X1_interval (De_interval hd hc hb (by omega) hk (by omega) (okI_esc hcc) (by omega)) rfl rfl hd rfl (mkRoom rfl rfl) (Nat.le_of_ble_eq_true rfl) (Nat.le_of_ble_eq_true rfl) (Nat.le_of_ble_eq_true rfl) (fun M r hp => ?_)
          obtain ⟨rfl, hd, o1⟩ := hp
          have m_c := (o1 _ (by omega)).trans m_c
          have m_tr := (o1 _ (by omega)).trans m_tr
          have hm := hm.off o1 (by omega)
          have hq := hq.off o1 (by omega)
          have hc := hc.off o1 (by omega)
          have ha := ha.off o1 (by omega)
          obtain ⟨u, m_ca⟩ := ha.obj
          have fr := fr.add o1 (by omega)
          refine g_aload_n dX8_readSymbol_161 rfl ?_
          refine z_getf fl_X8_39 dX8_readSymbol_162 m_c rfl ?_
          refine g_aload_n dX8_readSymbol_165 rfl ?_
          refine z_getf fl_X8_16 dX8_readSymbol_166 m_c rfl ?_
          refine g_iload dX8_readSymbol_169 rfl ?_
          refine z_callVV dX8_readSymbol_171 lm_X8_291 lk_X0_leave (Ca_leave ha hm m_tr hS2 hi (by omega) (by omega)) rfl rfl m_ca rfl (mkRoom rfl rfl) (Nat.le_of_ble_eq_true rfl) (Nat.le_of_ble_eq_true rfl) (Nat.le_of_ble_eq_true rfl) (fun M r hp => ?_)
          obtain ⟨rfl, ha, o1⟩ := hp
          have m_c := (o1 _ (by omega)).trans m_c
          have m_tr := (o1 _ (by omega)).trans m_tr
          have hm := hm.off o1 (by omega)
          have hq := hq.off o1 (by omega)
          have hc := hc.off o1 (by omega)
          have hd := hd.off o1 (by omega)
          have fr := fr.add o1 (by omega)
          refine z_iinc dX8_readSymbol_174 rfl (Nat.le_of_ble_eq_true rfl) ?_
          refine g_goto (tgt := 28) dX8_readSymbol_177 (by decide) ?_
          rw [e1]
          exact ih (lev exc ex t[i].2) _ (m1 + 4) M (by omega) (by omega) hk2 m_c m_tr hm hq ha hd hc fr hp0 _ _ _ _ _ _
  obtain ⟨u, m_ca⟩ := ha.obj
  have m_tr := m_s
  refine g_aload_n dX8_readSymbol_0 rfl ?_
  refine z_getf fl_X8_16 dX8_readSymbol_1 m_c rfl ?_
  refine z_getf fl_X8_85 dX8_readSymbol_4 m_tr rfl ?_
  refine g_astore_n dX8_readSymbol_7 rfl (Nat.le_of_ble_eq_true rfl) ?_
  refine g_aload_n dX8_readSymbol_8 rfl ?_
  refine z_getf fl_X8_39 dX8_readSymbol_9 m_c rfl ?_
  refine z_callVV dX8_readSymbol_12 lm_X8_271 lk_X0_restart (Ca_restart ha) rfl rfl m_ca rfl (mkRoom rfl rfl) (Nat.le_of_ble_eq_true rfl) (Nat.le_of_ble_eq_true rfl) (Nat.le_of_ble_eq_true rfl) (fun M r hp => ?_)
  obtain ⟨rfl, ha, o1⟩ := hp
  have m_c := (o1 _ (by omega)).trans m_c
  have m_tr := (o1 _ (by omega)).trans m_tr
  have hm := hm.off o1 (by omega)
  have hq := hq.off o1 (by omega)
  have hc := hc.off o1 (by omega)
  have hd := hd.off o1 (by omega)
  have fr := fr.add o1 (by omega)
  refine g_aload_n dX8_readSymbol_15 rfl ?_
  refine z_getf fl_X8_16 dX8_readSymbol_16 m_c rfl ?_
  refine z_getf fl_X8_73 dX8_readSymbol_19 m_tr rfl ?_
  refine g_iload_n dX8_readSymbol_22 rfl ?_
  refine z_min lj_X8_64 dX8_readSymbol_23 ⟨(Nat.le_of_ble_eq_true rfl), (Nat.le_of_ble_eq_true rfl)⟩ (Nat.le_of_ble_eq_true rfl) (Nat.le_of_ble_eq_true rfl) (by omega) (by omega) ?_
  refine g_istore dX8_readSymbol_26 (Nat.le_of_ble_eq_true rfl) ?_
  have e2 : min ord (n : Int) = ((nOrd ord n : Nat) : Int) - 1 := by unfold nOrd; omega
  rw [e2]
  exact loop (nOrd ord n) _ d m M (Nat.le_refl _) (by unfold nOrd; omega) hk m_c m_tr hm hq ha hd hc fr rfl _ _ _ _ _ _
