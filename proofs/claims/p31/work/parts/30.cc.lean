/-! the whole object -/
/-- a state: order, exclusion, step, limit, table, code, account, longest carry, decoded text -/
abbrev sg : Type := Int × Int × Int × Int × tbl × List Int × List ac × Int × List Int
abbrev sO (σ : sg) : Int := σ.1
abbrev sX (σ : sg) : Int := σ.2.1
abbrev sS (σ : sg) : Int := σ.2.2.1
abbrev sL (σ : sg) : Int := σ.2.2.2.1
abbrev sT (σ : sg) : tbl := σ.2.2.2.2.1
abbrev sC (σ : sg) : List Int := σ.2.2.2.2.2.1
abbrev sA (σ : sg) : List ac := σ.2.2.2.2.2.2.1
abbrev sG (σ : sg) : Int := σ.2.2.2.2.2.2.2.1
abbrev sR (σ : sg) : List Int := σ.2.2.2.2.2.2.2.2
def SS (M : pM) (st : Nat) (σ : sg) : Prop := Stt M st (sO σ) (sX σ) (sS σ) (sL σ) (sT σ) (sC σ) (sA σ) (sG σ) (sR σ)
def okG (σ : sg) : Prop := okS (sO σ) (sX σ) (sS σ) (sL σ) ∧ okT (sT σ) ∧ okB (sC σ) ∧ okX (sR σ) ∧ (0 ≤ sG σ ∧ sG σ ≤ 5000)
theorem SS.off {M M' : pM} {st lo hi : Nat} {σ : sg} (h : SS M st σ) (ho : Off M M' lo hi) (hd : st + 19 ≤ lo ∨ hi ≤ st) : SS M' st σ := Stt.off h ho hd
/-- the history behind an act -/
def hpush (h : List sg) (σ : sg) : List sg := (if h.length = 4 then h.tail else h) ++ [σ]
theorem hpush_len {h : List sg} {σ : sg} (hl : h.length ≤ 4) : (hpush h σ).length = if h.length = 4 then 4 else h.length + 1 := by
  unfold hpush
  split
  · next e => rw [List.length_append, List.length_tail, e]; rfl
  · rw [List.length_append]; rfl
/-- the kept states: their places are those of pi; some of them hold the history -/
def Pst (M : pM) (c : Nat) (h : List sg) : Prop := ∃ (f : Nat → Option Nat) (pi : Nat → Nat), M (c + 39) = some (arQ 4 f) ∧ (∀ i, i < 4 → f i = some (c + 40 + 19 * pi i) ∧ pi i < 4) ∧ (∀ i j, i < 4 → j < 4 → pi i = pi j → i = j) ∧ (∀ i, i < 4 → ∃ τ, SS M (c + 40 + 19 * pi i) τ) ∧ h.length ≤ 4 ∧ ∀ (i : Nat) (hi : i < h.length), SS M (c + 40 + 19 * pi i) h[i] ∧ okG h[i]
theorem Pst.off {M M' : pM} {c lo hi : Nat} {h : List sg} (hp : Pst M c h) (ho : Off M M' lo hi) (hd : c + 116 ≤ lo ∨ hi ≤ c + 39) : Pst M' c h := by
  obtain ⟨f, pi, h1, h2, h3, h4, h5, h6⟩ := hp
  refine ⟨f, pi, (ho _ (by omega)).trans h1, h2, h3, fun i hi => ?_, h5, fun i hi => ?_⟩
  · obtain ⟨τ, hτ⟩ := h4 i hi
    exact ⟨τ, hτ.off ho (by have := (h2 i hi).2; omega)⟩
  · exact ⟨(h6 i hi).1.off ho (by have := (h2 i (by omega)).2; omega), (h6 i hi).2⟩
def OfH (c : Nat) (M M' : pM) : Prop := ∀ x : Nat, ¬ (x = c ∨ (c + 39 ≤ x ∧ x < c + 116)) → M' x = M x
theorem OfH.rf {c : Nat} {M : pM} : OfH c M M := fun _ _ => rfl
theorem OfH.add {c lo hi : Nat} {M M1 M2 : pM} (h : OfH c M M1) (h2 : Off M1 M2 lo hi) (hd : (lo = c ∧ hi = c + 1) ∨ (c + 39 ≤ lo ∧ hi ≤ c + 116)) : OfH c M M2 := fun x hx => (h2 x (by omega)).trans (h x hx)
theorem OfH.tr {c : Nat} {M M1 M2 : pM} (h : OfH c M M1) (h2 : OfH c M1 M2) : OfH c M M2 := fun x hx => (h2 x hx).trans (h x hx)
/-- only the main cell and the row of references have changed -/
def OfP (c : Nat) (M M' : pM) : Prop := ∀ x : Nat, ¬ (x = c ∨ x = c + 39) → M' x = M x
theorem OfP.rf {c : Nat} {M : pM} : OfP c M M := fun _ _ => rfl
theorem Stt_P {M M' : pM} {c st : Nat} {o x s l : Int} {t : tbl} {cd : List Int} {A : List ac} {g : Int} {r : List Int} (h : Stt M st o x s l t cd A g r) (ho : OfP c M M') (hd : st + 19 ≤ c ∨ c + 40 ≤ st ∨ (c < st ∧ st + 19 ≤ c + 39)) : Stt M' st o x s l t cd A g r := by
  have hf : Off M (fun y => if st ≤ y ∧ y < st + 19 then M y else M' y) (if True then st + 19 else 0) 0 → True := fun _ => trivial
  obtain ⟨h1, ⟨gk, gw, gn, gc, b1, b2, b3, b4, b5, b6⟩, ⟨e1, e2, e3, e4⟩, ⟨a0, ⟨a1, a2, a3, a4⟩, ⟨a5, a6, a7, a8⟩, ⟨a9, a10, a11, a12⟩, ⟨a13, a14, a15, a16⟩⟩, ⟨d1, d2, d3, d4⟩⟩ := h
  have k : ∀ y, st ≤ y → y < st + 19 → M' y = M y := fun y h1 h2 => ho y (by omega)
  exact ⟨(k _ (by omega) (by omega)).trans h1, ⟨gk, gw, gn, gc, (k _ (by omega) (by omega)).trans b1, (k _ (by omega) (by omega)).trans b2, (k _ (by omega) (by omega)).trans b3, (k _ (by omega) (by omega)).trans b4, (k _ (by omega) (by omega)).trans b5, b6⟩, ⟨e1, (k _ (by omega) (by omega)).trans e2, (k _ (by omega) (by omega)).trans e3, e4⟩, ⟨(k _ (by omega) (by omega)).trans a0, ⟨a1, (k _ (by omega) (by omega)).trans a2, (k _ (by omega) (by omega)).trans a3, a4⟩, ⟨a5, (k _ (by omega) (by omega)).trans a6, (k _ (by omega) (by omega)).trans a7, a8⟩, ⟨a9, (k _ (by omega) (by omega)).trans a10, (k _ (by omega) (by omega)).trans a11, a12⟩, ⟨a13, (k _ (by omega) (by omega)).trans a14, (k _ (by omega) (by omega)).trans a15, a16⟩⟩, ⟨d1, (k _ (by omega) (by omega)).trans d2, (k _ (by omega) (by omega)).trans d3, d4⟩⟩
theorem SS_H {M M' : pM} {c j : Nat} {σ : sg} (h : SS M (c + 40 + 19 * j) σ) (ho : OfP c M M') (hj : j < 4) : SS M' (c + 40 + 19 * j) σ := Stt_P h ho (by omega)
theorem OfP.H {c : Nat} {M M' : pM} (h : OfP c M M') : OfH c M M' := fun x hx => h x (by omega)
set_option maxHeartbeats 1000000 in
theorem x_rollPast {M : pM} {z c : Nat} {h : List sg} (m_c : Cc M c 4) (hp : Pst M c h) (h4 : h.length = 4) : CW I_X8_rollPast yX8_rollPast [.ref c] M z (fun M' r => r = none ∧ Cc M' c 3 ∧ Pst M' c h.tail ∧ OfP c M M') := by
  have m_c : M c = _ := m_c
  have fr : OfP c M M := OfP.rf
  obtain ⟨f, pi, m_pa, h2, h3, h5, h6, h7⟩ := hp
  obtain ⟨f0, q0⟩ := h2 0 (by omega)
  obtain ⟨f1, q1⟩ := h2 1 (by omega)
  obtain ⟨f2, q2⟩ := h2 2 (by omega)
  obtain ⟨f3, q3⟩ := h2 3 (by omega)
  obtain ⟨t0, s0⟩ := h5 0 (by omega)
  obtain ⟨t1, s1⟩ := h5 1 (by omega)
  obtain ⟨t2, s2⟩ := h5 2 (by omega)
  obtain ⟨t3, s3⟩ := h5 3 (by omega)
  have m_p0 := s0.1
  have m_p1 := s1.1
  have m_p2 := s2.1
  have m_p3 := s3.1
  refine C.intro (pl := [some (.ref c), none, none]) pn_X8 rfl (fun h => absurd h (by decide)) rfl (Nat.le_of_ble_eq_true rfl) rfl ?_
  refine z_iconst dX8_rollPast_0 ?_
  refine g_istore_n dX8_rollPast_1 rfl (Nat.le_of_ble_eq_true rfl) ?_
  refine g_iload_n dX8_rollPast_2 rfl ?_
  refine g_aload_n dX8_rollPast_3 rfl ?_
  refine z_getf fl_X8_19 dX8_rollPast_4 m_c rfl ?_
  refine z_alenQ dX8_rollPast_7 m_pa ?_
  refine z_icmp_ge (tgt := 47) dX8_rollPast_8 (by decide) (by omega) (by omega) (fun c8 => absurd c8 (by omega)) (fun c8 => ?_)
  refine g_aload_n dX8_rollPast_11 rfl ?_
  refine z_getf fl_X8_19 dX8_rollPast_12 m_c rfl ?_
  refine g_iload_n dX8_rollPast_15 rfl ?_
  refine z_iconst dX8_rollPast_16 ?_
  refine z_isub dX8_rollPast_17 ?_
  refine z_aaload (j := 0) dX8_rollPast_18 m_pa rfl (by omega) (by omega) (show _ = some (c + 40 + 19 * pi 0) by simp [va_up, f0]) ?_
  refine g_astore_n dX8_rollPast_19 rfl (Nat.le_of_ble_eq_true rfl) ?_
  refine g_aload_n dX8_rollPast_20 rfl ?_
  refine z_getf fl_X8_19 dX8_rollPast_21 m_c rfl ?_
  refine g_iload_n dX8_rollPast_24 rfl ?_
  refine z_iconst dX8_rollPast_25 ?_
  refine z_isub dX8_rollPast_26 ?_
  refine g_aload_n dX8_rollPast_27 rfl ?_
  refine z_getf fl_X8_19 dX8_rollPast_28 m_c rfl ?_
  refine g_iload_n dX8_rollPast_31 rfl ?_
  refine z_aaload (j := 1) dX8_rollPast_32 m_pa rfl (by omega) (by omega) (show _ = some (c + 40 + 19 * pi 1) by simp [va_up, f1]) ?_
  refine z_aastore (j := 0) dX8_rollPast_33 m_pa m_p1 rfl (by omega) (by omega) (fun M m_pa o => ?_)
  have m_c := (o _ (by omega)).trans m_c
  have m_p0 := (o _ (by omega)).trans m_p0
  have m_p1 := (o _ (by omega)).trans m_p1
  have m_p2 := (o _ (by omega)).trans m_p2
  have m_p3 := (o _ (by omega)).trans m_p3
  have fr : OfP c _ M := fun x hx => (o x (by omega)).trans (fr x hx)
  refine g_aload_n dX8_rollPast_34 rfl ?_
  refine z_getf fl_X8_19 dX8_rollPast_35 m_c rfl ?_
  refine g_iload_n dX8_rollPast_38 rfl ?_
  refine g_aload_n dX8_rollPast_39 rfl ?_
  refine z_aastore (j := 1) dX8_rollPast_40 m_pa m_p0 rfl (by omega) (by omega) (fun M m_pa o => ?_)
  have m_c := (o _ (by omega)).trans m_c
  have m_p0 := (o _ (by omega)).trans m_p0
  have m_p1 := (o _ (by omega)).trans m_p1
  have m_p2 := (o _ (by omega)).trans m_p2
  have m_p3 := (o _ (by omega)).trans m_p3
  have fr : OfP c _ M := fun x hx => (o x (by omega)).trans (fr x hx)
  refine z_iinc dX8_rollPast_41 rfl (Nat.le_of_ble_eq_true rfl) ?_
  refine g_goto (tgt := 2) dX8_rollPast_44 (by decide) ?_
  refine g_iload_n dX8_rollPast_2 rfl ?_
  refine g_aload_n dX8_rollPast_3 rfl ?_
  refine z_getf fl_X8_19 dX8_rollPast_4 m_c rfl ?_
  refine z_alenQ dX8_rollPast_7 m_pa ?_
  refine z_icmp_ge (tgt := 47) dX8_rollPast_8 (by decide) (by omega) (by omega) (fun c8 => absurd c8 (by omega)) (fun c8 => ?_)
  refine g_aload_n dX8_rollPast_11 rfl ?_
  refine z_getf fl_X8_19 dX8_rollPast_12 m_c rfl ?_
  refine g_iload_n dX8_rollPast_15 rfl ?_
  refine z_iconst dX8_rollPast_16 ?_
  refine z_isub dX8_rollPast_17 ?_
  refine z_aaload (j := 1) dX8_rollPast_18 m_pa rfl (by omega) (by omega) (show _ = some (c + 40 + 19 * pi 0) by simp [va_up, f0]) ?_
  refine g_astore_n dX8_rollPast_19 rfl (Nat.le_of_ble_eq_true rfl) ?_
  refine g_aload_n dX8_rollPast_20 rfl ?_
  refine z_getf fl_X8_19 dX8_rollPast_21 m_c rfl ?_
  refine g_iload_n dX8_rollPast_24 rfl ?_
  refine z_iconst dX8_rollPast_25 ?_
  refine z_isub dX8_rollPast_26 ?_
  refine g_aload_n dX8_rollPast_27 rfl ?_
  refine z_getf fl_X8_19 dX8_rollPast_28 m_c rfl ?_
  refine g_iload_n dX8_rollPast_31 rfl ?_
  refine z_aaload (j := 2) dX8_rollPast_32 m_pa rfl (by omega) (by omega) (show _ = some (c + 40 + 19 * pi 2) by simp [va_up, f2]) ?_
  refine z_aastore (j := 1) dX8_rollPast_33 m_pa m_p2 rfl (by omega) (by omega) (fun M m_pa o => ?_)
  have m_c := (o _ (by omega)).trans m_c
  have m_p0 := (o _ (by omega)).trans m_p0
  have m_p1 := (o _ (by omega)).trans m_p1
  have m_p2 := (o _ (by omega)).trans m_p2
  have m_p3 := (o _ (by omega)).trans m_p3
  have fr : OfP c _ M := fun x hx => (o x (by omega)).trans (fr x hx)
  refine g_aload_n dX8_rollPast_34 rfl ?_
  refine z_getf fl_X8_19 dX8_rollPast_35 m_c rfl ?_
  refine g_iload_n dX8_rollPast_38 rfl ?_
  refine g_aload_n dX8_rollPast_39 rfl ?_
  refine z_aastore (j := 2) dX8_rollPast_40 m_pa m_p0 rfl (by omega) (by omega) (fun M m_pa o => ?_)
  have m_c := (o _ (by omega)).trans m_c
  have m_p0 := (o _ (by omega)).trans m_p0
  have m_p1 := (o _ (by omega)).trans m_p1
  have m_p2 := (o _ (by omega)).trans m_p2
  have m_p3 := (o _ (by omega)).trans m_p3
  have fr : OfP c _ M := fun x hx => (o x (by omega)).trans (fr x hx)
  refine z_iinc dX8_rollPast_41 rfl (Nat.le_of_ble_eq_true rfl) ?_
  refine g_goto (tgt := 2) dX8_rollPast_44 (by decide) ?_
  refine g_iload_n dX8_rollPast_2 rfl ?_
  refine g_aload_n dX8_rollPast_3 rfl ?_
  refine z_getf fl_X8_19 dX8_rollPast_4 m_c rfl ?_
  refine z_alenQ dX8_rollPast_7 m_pa ?_
  refine z_icmp_ge (tgt := 47) dX8_rollPast_8 (by decide) (by omega) (by omega) (fun c8 => absurd c8 (by omega)) (fun c8 => ?_)
  refine g_aload_n dX8_rollPast_11 rfl ?_
  refine z_getf fl_X8_19 dX8_rollPast_12 m_c rfl ?_
  refine g_iload_n dX8_rollPast_15 rfl ?_
  refine z_iconst dX8_rollPast_16 ?_
  refine z_isub dX8_rollPast_17 ?_
  refine z_aaload (j := 2) dX8_rollPast_18 m_pa rfl (by omega) (by omega) (show _ = some (c + 40 + 19 * pi 0) by simp [va_up, f0]) ?_
  refine g_astore_n dX8_rollPast_19 rfl (Nat.le_of_ble_eq_true rfl) ?_
  refine g_aload_n dX8_rollPast_20 rfl ?_
  refine z_getf fl_X8_19 dX8_rollPast_21 m_c rfl ?_
  refine g_iload_n dX8_rollPast_24 rfl ?_
  refine z_iconst dX8_rollPast_25 ?_
  refine z_isub dX8_rollPast_26 ?_
  refine g_aload_n dX8_rollPast_27 rfl ?_
  refine z_getf fl_X8_19 dX8_rollPast_28 m_c rfl ?_
  refine g_iload_n dX8_rollPast_31 rfl ?_
  refine z_aaload (j := 3) dX8_rollPast_32 m_pa rfl (by omega) (by omega) (show _ = some (c + 40 + 19 * pi 3) by simp [va_up, f3]) ?_
  refine z_aastore (j := 2) dX8_rollPast_33 m_pa m_p3 rfl (by omega) (by omega) (fun M m_pa o => ?_)
  have m_c := (o _ (by omega)).trans m_c
  have m_p0 := (o _ (by omega)).trans m_p0
  have m_p1 := (o _ (by omega)).trans m_p1
  have m_p2 := (o _ (by omega)).trans m_p2
  have m_p3 := (o _ (by omega)).trans m_p3
  have fr : OfP c _ M := fun x hx => (o x (by omega)).trans (fr x hx)
  refine g_aload_n dX8_rollPast_34 rfl ?_
  refine z_getf fl_X8_19 dX8_rollPast_35 m_c rfl ?_
  refine g_iload_n dX8_rollPast_38 rfl ?_
  refine g_aload_n dX8_rollPast_39 rfl ?_
  refine z_aastore (j := 3) dX8_rollPast_40 m_pa m_p0 rfl (by omega) (by omega) (fun M m_pa o => ?_)
  have m_c := (o _ (by omega)).trans m_c
  have m_p0 := (o _ (by omega)).trans m_p0
  have m_p1 := (o _ (by omega)).trans m_p1
  have m_p2 := (o _ (by omega)).trans m_p2
  have m_p3 := (o _ (by omega)).trans m_p3
  have fr : OfP c _ M := fun x hx => (o x (by omega)).trans (fr x hx)
  refine z_iinc dX8_rollPast_41 rfl (Nat.le_of_ble_eq_true rfl) ?_
  refine g_goto (tgt := 2) dX8_rollPast_44 (by decide) ?_
  refine g_iload_n dX8_rollPast_2 rfl ?_
  refine g_aload_n dX8_rollPast_3 rfl ?_
  refine z_getf fl_X8_19 dX8_rollPast_4 m_c rfl ?_
  refine z_alenQ dX8_rollPast_7 m_pa ?_
  refine z_icmp_ge (tgt := 47) dX8_rollPast_8 (by decide) (by omega) (by omega) (fun c8 => ?_) (fun c8 => absurd c8 (by omega))
  refine g_aload_n dX8_rollPast_47 rfl ?_
  refine g_aload_n dX8_rollPast_48 rfl ?_
  refine z_getf fl_X8_19 dX8_rollPast_49 m_c rfl ?_
  refine z_alenQ dX8_rollPast_52 m_pa ?_
  refine z_iconst dX8_rollPast_53 ?_
  refine z_isub dX8_rollPast_54 ?_
  refine z_putf fl_X8_23 dX8_rollPast_55 m_c rfl (Nat.le_of_ble_eq_true rfl) rfl rfl (fun M m_c o => ?_)
  have m_pa := (o _ (by omega)).trans m_pa
  have m_p0 := (o _ (by omega)).trans m_p0
  have m_p1 := (o _ (by omega)).trans m_p1
  have m_p2 := (o _ (by omega)).trans m_p2
  have m_p3 := (o _ (by omega)).trans m_p3
  have fr : OfP c _ M := fun x hx => (o x (by omega)).trans (fr x hx)
  refine g_return dX8_rollPast_58 rfl (Nat.le_of_ble_eq_true rfl) (Nat.le_of_ble_eq_true rfl) ?_
  refine ⟨rfl, rfl, m_c, ⟨_, fun i => if i = 3 then pi 0 else pi (i + 1), m_pa, fun i hi => ?_, fun i j hi hj e => ?_, fun i hi => ?_, by rw [List.length_tail]; omega, fun i hi => ?_⟩, fr⟩
  · match i, hi with
    | 0, _ => exact ⟨by simp [va_up, f1], q1⟩
    | 1, _ => exact ⟨by simp [va_up, f2], q2⟩
    | 2, _ => exact ⟨by simp [va_up, f3], q3⟩
    | 3, _ => exact ⟨by simp [va_up, f0], q0⟩
  · have key : ∀ i, i < 4 → (if i = 3 then pi 0 else pi (i + 1)) = pi (if i = 3 then 0 else i + 1) := fun i _ => by split <;> rfl
    dsimp only at e
    rw [key i hi, key j hj] at e
    have := h3 _ _ (by split <;> omega) (by split <;> omega) e
    split at this <;> split at this <;> omega
  · have key : (if i = 3 then pi 0 else pi (i + 1)) = pi (if i = 3 then 0 else i + 1) := by split <;> rfl
    dsimp only
    rw [key]
    obtain ⟨τ, hτ⟩ := h5 (if i = 3 then 0 else i + 1) (by split <;> omega)
    have hq := (h2 (if i = 3 then 0 else i + 1) (by split <;> omega)).2
    exact ⟨τ, SS_H hτ fr hq⟩
  · rw [List.length_tail] at hi
    dsimp only
    rw [if_neg (by omega), List.getElem_tail]
    have hq := (h2 (i + 1) (by omega)).2
    exact ⟨SS_H (h7 (i + 1) (by omega)).1 fr hq, (h7 (i + 1) (by omega)).2⟩
set_option maxHeartbeats 1000000 in
theorem x_remember {M : pM} {z c : Nat} {h : List sg} {σ : sg} (m_c : Cc M c h.length) (hn : SS M (c + 1) σ) (hG : okG σ) (hp : Pst M c h) : CW I_X8_remember yX8_remember [.ref c] M z (fun M' r => r = none ∧ Cc M' c (hpush h σ).length ∧ SS M' (c + 1) σ ∧ Pst M' c (hpush h σ) ∧ OfH c M M') := by
  have hl4 : h.length ≤ 4 := by obtain ⟨f, pi, -, -, -, -, h6, -⟩ := hp; exact h6
  have fr : OfH c M M := OfH.rf
  refine C.intro (pl := [some (.ref c), none]) pn_X8 rfl (fun h => absurd h (by decide)) rfl (Nat.le_of_ble_eq_true rfl) rfl ?_
  have tail : ∀ (M1 : pM) (h1 : List sg), h1.length ≤ 3 → hpush h σ = h1 ++ [σ] → Cc M1 c h1.length → SS M1 (c + 1) σ → Pst M1 c h1 → OfH c M M1 → G I_X8_remember 0 0 (fun M' z' r' => z' = z ∧ r' = none ∧ Cc M' c (hpush h σ).length ∧ SS M' (c + 1) σ ∧ Pst M' c (hpush h σ) ∧ OfH c M M') 0 0 16 [some (.ref c), none] [] M1 z := by
    intro M h1 hl he m_c hn hp fr
    have m_c : M c = _ := m_c
    obtain ⟨f, pi, m_pa, h2, h3, h5, h6, h7⟩ := hp
    obtain ⟨ff, fq⟩ := h2 h1.length (by omega)
    obtain ⟨t0, s0⟩ := h5 h1.length (by omega)
    have m_p := s0.1
    refine g_aload_n dX8_remember_16 rfl ?_
    refine z_getf fl_X8_23 dX8_remember_17 m_c rfl ?_
    refine z_if_lt (tgt := 35) dX8_remember_20 (by decide) (by omega) (fun c20 => absurd c20 (by omega)) (fun c20 => ?_)
    refine g_aload_n dX8_remember_23 rfl ?_
    refine z_getf fl_X8_23 dX8_remember_24 m_c rfl ?_
    refine g_aload_n dX8_remember_27 rfl ?_
    refine z_getf fl_X8_19 dX8_remember_28 m_c rfl ?_
    refine z_alenQ dX8_remember_31 m_pa ?_
    refine z_icmp_lt (tgt := 36) dX8_remember_32 (by decide) (by omega) (by omega) (fun c32 => ?_) (fun c32 => absurd c32 (by omega))
    refine g_aload_n dX8_remember_36 rfl ?_
    refine z_getf fl_X8_19 dX8_remember_37 m_c rfl ?_
    refine g_aload_n dX8_remember_40 rfl ?_
    refine z_getf fl_X8_23 dX8_remember_41 m_c rfl ?_
    refine z_aaload (j := h1.length) dX8_remember_44 m_pa rfl (by omega) (by omega) ff ?_
    refine g_astore_n dX8_remember_45 rfl (Nat.le_of_ble_eq_true rfl) ?_
    refine g_aload_n dX8_remember_46 rfl ?_
    refine g_ifnull dX8_remember_47 ?_
    refine g_aload_n dX8_remember_50 rfl ?_
    refine g_aload_n dX8_remember_51 rfl ?_
    refine z_getf fl_X8_12 dX8_remember_52 m_c rfl ?_
    refine z_callVV dX8_remember_55 lm_X8_203 lk_X7_take (Stt_take s0 hn hG.1.2.1 (by omega)) rfl rfl m_p rfl (mkRoom rfl rfl) (Nat.le_of_ble_eq_true rfl) (Nat.le_of_ble_eq_true rfl) (Nat.le_of_ble_eq_true rfl) (fun M r hp => ?_)
    obtain ⟨rfl, s0, o1⟩ := hp
    have m_c := (o1 _ (by omega)).trans m_c
    have m_pa := (o1 _ (by omega)).trans m_pa
    have hn := hn.off o1 (by omega)
    have fr := fr.add o1 (by omega)
    refine g_aload_n dX8_remember_58 rfl ?_
    refine g_dup dX8_remember_59 rfl ?_
    refine z_getf fl_X8_23 dX8_remember_60 m_c rfl ?_
    refine z_iconst dX8_remember_63 ?_
    refine z_iadd dX8_remember_64 ?_
    refine z_putf fl_X8_23 dX8_remember_65 m_c rfl (Nat.le_of_ble_eq_true rfl) rfl rfl (fun M m_c o => ?_)
    have m_pa := (o _ (by omega)).trans m_pa
    have o2 : Off _ M c (c + 1) := fun x hx => o x (by omega)
    have fr := fr.add o2 (by omega)
    refine g_return dX8_remember_68 rfl (Nat.le_of_ble_eq_true rfl) (Nat.le_of_ble_eq_true rfl) ?_
    have el : ((h1 ++ [σ]).length : Int) = (h1.length : Int) + 1 := by rw [List.length_append]; rfl
    have s0 : SS M (c + 40 + 19 * pi h1.length) σ := Stt.off s0 o2 (by omega)
    refine ⟨rfl, rfl, ?_, hn.off o2 (by omega), ⟨f, pi, m_pa, h2, h3, fun i hi => ?_, ?_, fun i hi => ?_⟩, fr⟩
    · rw [he]; unfold Cc; rw [el]; exact m_c
    · by_cases e : i = h1.length
      · subst e; exact ⟨σ, s0⟩
      · obtain ⟨τ, hτ⟩ := h5 i hi
        have hne : pi i ≠ pi h1.length := fun q => e (h3 i h1.length hi (by omega) q)
        have hq := (h2 i hi).2
        exact ⟨τ, (hτ.off o1 (by omega)).off o2 (by omega)⟩
    · rw [he, List.length_append]; simp; omega
    · have hi2 : i < h1.length + 1 := by rw [he] at hi; simpa using hi
      have eg : (hpush h σ)[i] = (h1 ++ [σ])[i]'(by simpa using hi2) := by congr 1
      rw [eg]
      by_cases e : i = h1.length
      · subst e; rw [List.getElem_concat_length rfl]; exact ⟨s0, hG⟩
      · rw [List.getElem_append_left (by omega)]
        have hne : pi i ≠ pi h1.length := fun q => e (h3 i h1.length (by omega) (by omega) q)
        have hq := (h2 i (by omega)).2
        exact ⟨((h7 i (by omega)).1.off o1 (by omega)).off o2 (by omega), (h7 i (by omega)).2⟩
  have m_c : M c = _ := m_c
  have m_pa : ∃ f, M (c + 39) = some (arQ 4 f) := by obtain ⟨f, pi, h1, -⟩ := hp; exact ⟨f, h1⟩
  obtain ⟨f, m_pa⟩ := m_pa
  by_cases h4 : h.length = 4
  · refine g_aload_n dX8_remember_0 rfl ?_
    refine z_getf fl_X8_23 dX8_remember_1 m_c rfl ?_
    refine g_aload_n dX8_remember_4 rfl ?_
    refine z_getf fl_X8_19 dX8_remember_5 m_c rfl ?_
    refine z_alenQ dX8_remember_8 m_pa ?_
    refine z_icmp_lt (tgt := 16) dX8_remember_9 (by decide) (by omega) (by omega) (fun c9 => absurd c9 (by omega)) (fun c9 => ?_)
    refine g_aload_n dX8_remember_12 rfl ?_
    refine z_callVV dX8_remember_13 lm_X8_221 lk_X8_rollPast (x_rollPast (by rw [h4] at m_c; exact m_c) hp h4) rfl rfl m_c rfl (mkRoom rfl rfl) (Nat.le_of_ble_eq_true rfl) (Nat.le_of_ble_eq_true rfl) (Nat.le_of_ble_eq_true rfl) (fun M r hp2 => ?_)
    obtain ⟨rfl, m_c, hp1, o3⟩ := hp2
    exact tail M h.tail (by rw [List.length_tail]; omega) (by unfold hpush; rw [if_pos h4]) (by rw [List.length_tail, h4]; exact m_c) (Stt_P hn o3 (by omega)) hp1 o3.H
    
  · refine g_aload_n dX8_remember_0 rfl ?_
    refine z_getf fl_X8_23 dX8_remember_1 m_c rfl ?_
    refine g_aload_n dX8_remember_4 rfl ?_
    refine z_getf fl_X8_19 dX8_remember_5 m_c rfl ?_
    refine z_alenQ dX8_remember_8 m_pa ?_
    refine z_icmp_lt (tgt := 16) dX8_remember_9 (by decide) (by omega) (by omega) (fun c9 => ?_) (fun c9 => absurd c9 (by omega))
    exact tail M h (by omega) (by unfold hpush; rw [if_neg h4]) m_c hn hp fr
