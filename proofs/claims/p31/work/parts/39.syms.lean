/-! a symbol that was coded is decoded -/
theorem pln_app {g : Nat → Option (Nat → Int)} {exc : Int} {s : Nat} : ∀ (n : Nat) (ex : Nat → Bool) (L : List iv), pln g exc s n ex L = (L ++ (pln g exc s n ex []).1, (pln g exc s n ex []).2)
  | 0, ex, L => rfl
  | n + 1, ex, L => by
    cases h : g n with
    | none => rw [pln_no h, pln_no h]; exact pln_app n ex L
    | some c =>
      by_cases hc : ex s = false ∧ 0 < c s
      · rw [pln_yes h hc, pln_yes h hc]; rfl
      · rw [pln_esc h hc, pln_esc h hc]
        have a1 := pln_app (g := g) (exc := exc) (s := s) n (lev exc ex c) (L ++ [(smx ex c 96, smx ex c 96 + kn c, smx ex c 96 + kn c)])
        have a2 := pln_app (g := g) (exc := exc) (s := s) n (lev exc ex c) ([] ++ [(smx ex c 96, smx ex c 96 + kn c, smx ex c 96 + kn c)])
        rw [a1, a2]
        simp only [List.nil_append, List.append_assoc]
theorem ecs_app (e : es) (L T : List iv) : ecs e (L ++ T) = ecs (ecs e L) T := by unfold ecs; rw [List.foldl_append]
theorem ecs_nil (e : es) : ecs e [] = e := rfl
theorem ecs_one (e : es) (x : iv) : ecs e [x] = eiv e x := rfl
theorem ecs_cons (e : es) (x : iv) (L : List iv) : ecs e (x :: L) = ecs (eiv e x) L := rfl
theorem cI_ecs (L : List iv) : ∀ {e : es} {n : Nat}, okN e n → (∀ x ∈ L, okI x) → cI e.1 e.2.1 e.2.2.1 → cI (ecs e L).1 (ecs e L).2.1 (ecs e L).2.2.1 := by
  induction L with
  | nil =>
    intro e n hk hx h
    rw [ecs_nil]
    exact h
  | cons x L ih =>
    intro e n hk hx h
    rw [ecs_cons]
    exact ih (okN_eiv hk (hx x List.mem_cons_self)) (fun y hy => hx y (List.mem_cons_of_mem _ hy)) (cI_eiv hk (hx x List.mem_cons_self) h)
theorem ecs_len : ∀ (L : List iv) {e : es} {n : Nat}, okN e n → (∀ x ∈ L, okI x ∧ x.2.2 ≤ 1096) → (ecs e L).2.2.1.length ≤ e.2.2.1.length + 2 * L.length
  | [], e, _, _, _ => by rw [ecs_nil]; omega
  | x :: L, e, n, hk, hx => by
    have h1 := hx x List.mem_cons_self
    have h2 := eiv_len hk h1.1
    have h3 : ib x ≤ 2 := by
      unfold ib
      split
      · omega
      · rw [if_pos h1.2]; omega
    have h4 := ecs_len L (okN_eiv hk h1.1) (fun y hy => hx y (List.mem_cons_of_mem _ hy))
    rw [List.length_cons]
    rw [ecs_cons]
    omega
/-- the totals of a symbol's intervals -/
theorem pln_tot {g : Nat → Option (Nat → Int)} {exc : Int} {s : Nat} (hg : ∀ n c, g n = some c → okC c) : ∀ (n : Nat) (ex : Nat → Bool) (L : List iv), (∀ x ∈ L, x.2.2 ≤ 1096) → ∀ x ∈ (pln g exc s n ex L).1, x.2.2 ≤ 1096
  | 0, ex, L, hL, x, hx => by
    rw [pln] at hx
    rcases List.mem_append.mp hx with hx | hx
    · exact hL x hx
    · rw [List.mem_singleton] at hx
      have := cnx_rng ex 96
      subst hx
      dsimp only
      omega
  | n + 1, ex, L, hL, x, hx => by
    cases hn : g n with
    | none =>
      rw [pln_no hn] at hx
      exact pln_tot hg n ex L hL x hx
    | some c =>
      have h2 := (hg n c hn).smx ex (n := 96) (by omega)
      have h4 := kn_rng c
      by_cases hc : ex s = false ∧ 0 < c s
      · rw [pln_yes hn hc] at hx
        rcases List.mem_append.mp hx with hx | hx
        · exact hL x hx
        · rw [List.mem_singleton] at hx
          subst hx
          dsimp only
          omega
      · rw [pln_esc hn hc] at hx
        refine pln_tot hg n _ _ (fun y hy => ?_) x hx
        rcases List.mem_append.mp hy with hy | hy
        · exact hL y hy
        · rw [List.mem_singleton] at hy
          subst hy
          dsimp only
          omega
theorem rdp_pln {g : Nat → Option (Nat → Int)} {exc : Int} {cs : List Int} {s : Nat} (hb : okB cs) (hs : s < 96) (hg : ∀ n c, g n = some c → okC c) (n : Nat) : ∀ (ex : Nat → Bool) (e : es) (m : Nat), okN e m → cI e.1 e.2.1 e.2.2.1 → ex s = false → inE cs (ecs e (pln g exc s n ex []).1) → inE cs e ∧ rdp g exc cs n ex (dE cs e) = ((s : Int), dE cs (ecs e (pln g exc s n ex []).1)) := by
  induction n with
  | zero =>
    intro ex e m hk hc he h
    have hp : (pln g exc s 0 ex []).1 = [(cnx ex s, cnx ex s + 1, cnx ex 96)] := rfl
    rw [hp, ecs_one] at h ⊢
    have hx := okI_last (ex := ex) hs he
    obtain ⟨a1, ⟨a2, a3⟩, a4⟩ := inE_eiv hb hk hx hc h
    dsimp only at a2 a3
    have hnum : dnum (dE cs e) (cnx ex 96) = cnx ex s := by omega
    have hx1 := hx.2.1
    have hx2 := hx.2.2.1
    have hx0 := hx.1
    dsimp only at hx0 hx1 hx2
    have hfi : fi (fun s' => decide (cnx ex s < cnx ex (s' + 1))) 96 = (s : Int) := fi_at hs (decide_eq_true (by rw [cnx_s, if_neg (by rw [he]; decide)]; omega)) (fun j hj => decide_eq_false (by
      have := cnx_mono (ex := ex) (m := j + 1) (n := s) (by omega)
      omega))
    refine ⟨a1, ?_⟩
    rw [rdp, if_neg (by omega), hnum, hfi, a4]
  | succ n IH =>
    intro ex e m hk hc he h
    cases hn : g n with
    | none =>
      rw [pln_no hn] at h ⊢
      rw [rdp, hn]
      exact IH ex e m hk hc he h
    | some c =>
      have hC := hg n c hn
      by_cases hcd : ex s = false ∧ 0 < c s
      · rw [pln_yes hn hcd] at h ⊢
        dsimp only at h ⊢
        rw [List.nil_append, ecs_one] at h ⊢
        have hs1 : smx ex c (s + 1) = smx ex c s + c s := by rw [smx_s (n := s), if_neg (by rw [he]; decide)]
        have hx := okI_sym (ex := ex) hC hs he hcd.2
        obtain ⟨a1, ⟨a2, a3⟩, a4⟩ := inE_eiv hb hk hx hc h
        dsimp only at a2 a3
        have h3 := smx_mono (ex := ex) (c := c) (m := s + 1) (n := 96) (by omega) hC.1
        rw [smx_s, if_neg (by rw [he]; decide)] at h3
        have hfi : fi (fun s' => decide (dnum (dE cs e) (smx ex c 96 + kn c) < smx ex c (s' + 1))) 96 = (s : Int) := fi_at hs (decide_eq_true (by omega)) (fun j hj => decide_eq_false (by
          have := smx_mono (ex := ex) (c := c) (m := j + 1) (n := s) (by omega) (fun y hy => hC.1 y (by omega))
          omega))
        refine ⟨a1, ?_⟩
        rw [rdp, hn]
        dsimp only
        rw [if_pos (by omega), hfi, Int.toNat_natCast, a4]
      · have hpe := pln_esc (exc := exc) (L := []) hn hcd
        have hpa := pln_app (g := g) (exc := exc) (s := s) n (lev exc ex c) ([] ++ [(smx ex c 96, smx ex c 96 + kn c, smx ex c 96 + kn c)])
        have e1 : ecs e (pln g exc s (n + 1) ex []).1 = ecs (eiv e (smx ex c 96, smx ex c 96 + kn c, smx ex c 96 + kn c)) (pln g exc s n (lev exc ex c) []).1 := by
          rw [hpe, hpa]
          dsimp only
          rw [List.nil_append, List.singleton_append, ecs_cons]
        rw [e1] at h ⊢
        have hx := okI_esc (ex := ex) hC
        have ih := IH (lev exc ex c) (eiv e (smx ex c 96, smx ex c 96 + kn c, smx ex c 96 + kn c)) (m + 4) (okN_eiv hk hx) (cI_eiv hk hx hc) (lev_s he hcd) h
        obtain ⟨a1, ⟨a2, a3⟩, a4⟩ := inE_eiv hb hk hx hc ih.1
        dsimp only at a2 a3
        refine ⟨a1, ?_⟩
        rw [rdp, hn]
        dsimp only
        rw [if_neg (by omega), a4]
        exact ih.2
