/-! THE CLAIM OUT OF ONE WALK OF THE LAW'S BODY. Your part is whole_start (and what it stands on); all else here is the same for every law, but numbers. -/
def R_law : String := "ContextCoderLaw"
def lw_P (b : Addr) (xs : List Int32) (args : Array Value) (s : State) : Prop := args = #[.ref b] ∧ s.IntsAt b xs ∧ xs.length ≤ 260 ∧ (Jvm.Cond.and given_1 narrow_1).before args s = true
def lw_Q (_ : Array Value) (s : State) (o : Outcome) (t : State) : Prop := o = .returned (some (.int 1)) ∧ Framed s o t [] 600000 7302250
def lw_Z (below : List Frame) (a : Array Value) (s : State) : State → Prop := fun t => ∃ o, t.status = .running ∧ Ended t below o ∧ lw_Q a s o t
/-- the law's own end, with 1 on the stack, nothing written that was there before, its room as the claim has it -/
theorem lw_ret {p : Program} {l : Launch} {e : Env} {s : State} {m : MethodId} {below : List Frame} {meth : Method} {c : Code} {b : Nat} (hx : p.tables.exec = Jvm.exec) (hb : c.code = code) (hr : meth.sig.returnType = ret) (hlocks : meth.locks = false) {pc : Nat} {H : Heap} {ls : Array Slot} (hdg : decode code pc = .ok (.ireturn, 1)) : W p l e room_1 s m #[Value.ref b] below meth c H [] 600000 7302250 (lw_Z below #[Value.ref b] s) (F0 m pc ls [.int 1]) := by
  intro T hT X
  obtain ⟨fs, hret, hrun, hended, hW, hframe⟩ := X.leave (v := some (.int 1)) (hlocks := hlocks) (fun h => by rw [hr] at h; cases h)
  have hmeth' : T.vm.method? m = some meth := X.method'
  refine ⟨T.setFrames fs, ?_, .returned (some (.int 1)), hrun, hended, rfl, ⟨_, rfl⟩, hW, hframe⟩
  jvm_step X.here [X.here.top, hx, hb, hdg, hmeth', hr, ret, narrow_b1]
  (try refine ⟨rfl, ?_⟩); (try refine ⟨rfl, ?_⟩)
  first | (intro acts; rw [hret _ acts rfl rfl rfl]) | rw [hret _ _ rfl rfl rfl]
  exact Steps.refl _
/-- what holds at the law's entry: the machine, the code, the tables' words (any of lw_tbl by 'hts w (by decide +kernel)'), the script of L ints xs at the cell b, what the Statement gives of the start (any of its parts by flat_of_before) -/
def lw_At (p : Program) (s : State) (m : MethodId) (meth : Method) (c : Code) (b L : Nat) (xs : Nat → Int32) : Prop :=
  p.tables.exec = Jvm.exec ∧ c.code = code ∧ meth.sig.returnType = ret ∧ c.maxLocals = 8 ∧ s.vm.findClass R_law = some m.cls ∧ (∀ w ∈ lw_tbl, w.before #[Value.ref b] s = true) ∧ va_X b L xs s s.heap ∧ b < s.heap.size ∧ meth.locks = false ∧ (Jvm.Cond.and given_1 narrow_1).before #[Value.ref b] s = true
set_option maxHeartbeats 4000000 in
theorem law_start {bS LS : Nat} {xS : Nat → Int32} (hL : LS ≤ 260) {z : Nat} : GS bS LS xS I_L_law 600000 7302250 (fun M' z' r => r = some (vI 1)) 0 0 0 [some (.ref bS), none, none, none, none, none, none, none] [] (fun _ => none) z := by
  obtain ⟨q, hqe⟩ : ∃ q, cel xS LS 0 = q := ⟨_, rfl⟩
  have hq := cel_rng xS LS 0
  rw [hqe] at hq
  obtain ⟨ord, hoe⟩ : ∃ ord, upz q 4 = ord := ⟨_, rfl⟩
  have ho := upz_rng (a := q) (m := 4) (by omega)
  rw [hoe] at ho
  have hu3 := upz_rng (a := q / 2 ^ 3) (m := 10) (by omega)
  have hu7 := upz_rng (a := q / 2 ^ 7) (m := 300) (by omega)
  have hkq : 0 + 1 + 130 ≤ 600000 := (Nat.le_of_ble_eq_true rfl)
  have hnq : 0 + 9 + 200000 ≤ 7302250 := (Nat.le_of_ble_eq_true rfl)
  have t73 : ∀ (b : Int) (M1 : pM), (b = 0 ∨ b = 1) → CC M1 z ((max 0 (min ord 3), 0, 1, 200, [], [], [], 0, []), [], []) → GS bS LS xS I_L_law 600000 7302250 (fun M' z' r => r = some (vI 1)) (0 + 1 + 130) (0 + 9 + 200000) 73 [some (.ref bS), some (vI q), some (vI ord), some (.ref z), none, none, none, none] [vI b, .ref z] M1 (z + 1 + 130) := by
    intro b M hb hC
    have m_c : M z = _ := hC.1
    refine hz_callVV dL_law_73 lm_L_107 lk_X8_setExclusion ((c_setExclusion hC (by omega) hb).as (k' := _) (v := 0) (rfl)) rfl rfl m_c rfl (mkRoom rfl rfl) (Nat.le_of_ble_eq_true rfl) hkq hnq (fun M r hp => ?_)
    obtain ⟨rfl, hC, o1⟩ := hp
    have m_c : M z = _ := hC.1
    refine hz_if_ne (tgt := 120) dL_law_76 (by decide) (by omega) (fun c76 => absurd c76 (by omega)) (fun c76 => ?_)
    refine hg_aload_n dL_law_79 rfl ?_
    refine hz_iconst dL_law_80 ?_
    refine hg_iload_n dL_law_81 rfl ?_
    refine hz_iconst dL_law_82 ?_
    refine hg_ishr dL_law_83 ?_
    refine GS.top (v' := vI (q / 2 ^ 3)) (shr_e hq 3 (by omega)) ?_
    refine hz_bipush dL_law_84 (by decide +kernel) ?_
    refine hz_callSR dL_law_86 lm_L_70 lk_L_up (x_up (div_rng hq _) (by omega)) rfl rfl (mkRoom rfl rfl) (Nat.le_of_ble_eq_true rfl) hkq hnq ?_
    refine hz_iadd dL_law_89 ?_
    refine hz_callVV dL_law_90 lm_L_19 lk_X8_setStep ((c_setStep hC (by omega)).as (k' := _) (v := 1) (st_e (by omega))) rfl rfl m_c rfl (mkRoom rfl rfl) (Nat.le_of_ble_eq_true rfl) hkq hnq (fun M r hp => ?_)
    obtain ⟨rfl, hC, o1⟩ := hp
    have m_c : M z = _ := hC.1
    refine hz_iconst dL_law_93 ?_
    refine hz_icmp_ne (tgt := 120) dL_law_94 (by decide) (by omega) (by omega) (fun c94 => absurd c94 (by omega)) (fun c94 => ?_)
    refine hg_aload_n dL_law_97 rfl ?_
    refine hz_bipush dL_law_98 (by decide +kernel) ?_
    refine hg_iload_n dL_law_100 rfl ?_
    refine hz_bipush dL_law_101 (by decide +kernel) ?_
    refine hg_ishr dL_law_103 ?_
    refine GS.top (v' := vI (q / 2 ^ 7)) (shr_e hq 7 (by omega)) ?_
    refine hz_sipush dL_law_104 (by decide +kernel) ?_
    refine hz_callSR dL_law_107 lm_L_70 lk_L_up (x_up (div_rng hq _) (by omega)) rfl rfl (mkRoom rfl rfl) (Nat.le_of_ble_eq_true rfl) hkq hnq ?_
    refine hz_iadd dL_law_110 ?_
    refine hz_callVV dL_law_111 lm_L_22 lk_X8_setLimit ((c_setLimit hC (by omega)).as (k' := _) (v := 200) (li_e (by omega))) rfl rfl m_c rfl (mkRoom rfl rfl) (Nat.le_of_ble_eq_true rfl) hkq hnq (fun M r hp => ?_)
    obtain ⟨rfl, hC, o1⟩ := hp
    have m_c : M z = _ := hC.1
    refine hz_sipush dL_law_114 (by decide +kernel) ?_
    refine hz_icmp_eq (tgt := 122) dL_law_117 (by decide) (by omega) (by omega) (fun c117 => ?_) (fun c117 => absurd c117 (by omega))
    refine hz_iconst dL_law_122 ?_
    refine hg_istore dL_law_123 (Nat.le_of_ble_eq_true rfl) ?_
    exact law_loop hL hq (by omega) 4 0 M _ _ _ _ (by omega) (Nat.le_of_ble_eq_true rfl) (Nat.le_of_ble_eq_true rfl) (by omega) hC (show max 0 (min ord 3) = ord by omega) _ _ _
  refine hg_aload_n dL_law_0 rfl ?_
  refine hz_iconst dL_law_1 ?_
  refine hz_callX dL_law_2 lm_L_96 lk_L_cell (x_cell (j := 0) hL (by omega) hqe) rfl rfl (mkRoom rfl rfl) (Nat.le_of_ble_eq_true rfl) (Nat.le_of_ble_eq_true rfl) (Nat.le_of_ble_eq_true rfl) ?_
  refine hg_istore_n dL_law_5 rfl (Nat.le_of_ble_eq_true rfl) ?_
  refine hg_iload_n dL_law_6 rfl ?_
  refine hz_iconst dL_law_7 ?_
  refine hz_callSR dL_law_8 lm_L_70 lk_L_up ((x_up hq (by omega)).eq (by rw [hoe])) rfl rfl (mkRoom rfl rfl) (Nat.le_of_ble_eq_true rfl) (Nat.le_of_ble_eq_true rfl) (Nat.le_of_ble_eq_true rfl) ?_
  refine hg_istore_n dL_law_11 rfl (Nat.le_of_ble_eq_true rfl) ?_
  refine hz_new cis_8 ln_L_10 dL_law_12 df_X8 (Nat.le_of_ble_eq_true rfl) (Nat.le_of_ble_eq_true rfl) (fun M _ m_x o => ?_)
  refine hg_dup dL_law_15 rfl ?_
  refine hg_iload_n dL_law_16 rfl ?_
  refine hz_callN dL_law_17 lm_L_100 lk_X8_init (n_X8 (by omega) m_x) rfl rfl (mkRoom rfl rfl) (Nat.le_of_ble_eq_true rfl) (Nat.le_of_ble_eq_true rfl) (Nat.le_of_ble_eq_true rfl) rfl (fun M hC oN => ?_)
  refine hg_astore_n dL_law_20 rfl (Nat.le_of_ble_eq_true rfl) ?_
  have m_c : M z = _ := hC.1
  refine hg_aload_n dL_law_21 rfl ?_
  refine hz_callVV dL_law_22 lm_L_87 lk_X8_undo ((c_undo hC).as (k' := ((max 0 (min ord 3), 0, 1, 200, [], [], [], 0, []), [], [])) (v := (-9)) (rfl)) rfl rfl m_c rfl (mkRoom rfl rfl) (Nat.le_of_ble_eq_true rfl) hkq hnq (fun M r hp => ?_)
  obtain ⟨rfl, hC, o1⟩ := hp
  have m_c : M z = _ := hC.1
  refine hz_bipush dL_law_25 (by decide +kernel) ?_
  refine hz_icmp_ne (tgt := 120) dL_law_27 (by decide) (by omega) (by omega) (fun c27 => absurd c27 (by omega)) (fun c27 => ?_)
  refine hg_aload_n dL_law_30 rfl ?_
  refine hz_callVV dL_law_31 lm_L_60 lk_X8_coded ((c_coded hC).as (k' := ((max 0 (min ord 3), 0, 1, 200, [], [], [], 0, []), [], [])) (v := 0) (rfl)) rfl rfl m_c rfl (mkRoom rfl rfl) (Nat.le_of_ble_eq_true rfl) hkq hnq (fun M r hp => ?_)
  obtain ⟨rfl, hC, o1⟩ := hp
  have m_c : M z = _ := hC.1
  refine hz_if_ne (tgt := 120) dL_law_34 (by decide) (by omega) (fun c34 => absurd c34 (by omega)) (fun c34 => ?_)
  refine hg_aload_n dL_law_37 rfl ?_
  refine hz_callVV dL_law_38 lm_L_78 lk_X8_cost ((c_cost hC).as (k' := ((max 0 (min ord 3), 0, 1, 200, [], [], [], 0, []), [], [])) (v := 0) (rfl)) rfl rfl m_c rfl (mkRoom rfl rfl) (Nat.le_of_ble_eq_true rfl) hkq hnq (fun M r hp => ?_)
  obtain ⟨rfl, hC, o1⟩ := hp
  have m_c : M z = _ := hC.1
  refine hz_if_ne (tgt := 120) dL_law_41 (by decide) (by omega) (fun c41 => absurd c41 (by omega)) (fun c41 => ?_)
  refine hg_aload_n dL_law_44 rfl ?_
  refine hz_callVV dL_law_45 lm_L_44 lk_X8_bytes ((c_bytes hC).as (k' := ((max 0 (min ord 3), 0, 1, 200, [], [], [], 0, []), [], [])) (v := 0) (rfl)) rfl rfl m_c rfl (mkRoom rfl rfl) (Nat.le_of_ble_eq_true rfl) hkq hnq (fun M r hp => ?_)
  obtain ⟨rfl, hC, o1⟩ := hp
  have m_c : M z = _ := hC.1
  refine hz_if_ne (tgt := 120) dL_law_48 (by decide) (by omega) (fun c48 => absurd c48 (by omega)) (fun c48 => ?_)
  refine hg_aload_n dL_law_51 rfl ?_
  refine hz_callSV dL_law_52 lm_L_103 lk_L_fails (x_fails hC) rfl rfl (mkRoom rfl rfl) (Nat.le_of_ble_eq_true rfl) hkq hnq (fun M r hp => ?_)
  obtain ⟨rfl, hC, o1⟩ := hp
  have m_c : M z = _ := hC.1
  refine hz_if_eq (tgt := 120) dL_law_55 (by decide) (by omega) (fun c55 => absurd c55 (by omega)) (fun c55 => ?_)
  refine hg_aload_n dL_law_58 rfl ?_
  refine hg_iload_n dL_law_59 rfl ?_
  refine hz_iconst dL_law_60 ?_
  refine hg_ishr dL_law_61 ?_
  refine GS.top (v' := vI (q / 2 ^ 2)) (shr_e hq 2 (by omega)) ?_
  refine hz_iconst dL_law_62 ?_
  refine hg_iand dL_law_63 ?_
  refine GS.top (v' := vI ((q / 2 ^ 2) % 2)) (by rw [iZ_and1]) ?_
  refine hz_iconst dL_law_64 ?_
  refine hz_icmp_ne (tgt := 72) dL_law_65 (by decide) (by omega) (by omega) (fun c65 => ?_) (fun c65 => ?_)
  · refine hz_iconst dL_law_72 ?_
    first
    | exact t73 1 M (Or.inr rfl) hC
    | exact t73 0 M (Or.inl rfl) hC
  · refine hz_iconst dL_law_68 ?_
    refine hg_goto (tgt := 73) dL_law_69 (by decide) ?_
    first
    | exact t73 1 M (Or.inr rfl) hC
    | exact t73 0 M (Or.inl rfl) hC
-- ===== YOUR PART BEGINS =====
theorem fEnd {s : State} {o : Outcome} {t : State} {L : List Loc} {k n : Nat} (h : FrameEnd s o t L k n) (hf : ∀ q ∈ L, s.heap.size ≤ q.base) : Framed s o t [] k n := by
  obtain ⟨h1, h2, q1, q2, q3, q4, q5, q6⟩ := h
  refine ⟨h1, h2, q1, q2, q3, q4, q5, fun a c hc => ?_⟩
  obtain ⟨c', e1, e2, e3, e4⟩ := q6 a c hc
  refine ⟨c', e1, e2, e3, fun i _ => e4 i (fun hm => ?_)⟩
  have h3 := hf _ hm
  have h4 := (Array.getElem?_eq_some_iff.mp hc).1
  exact absurd h4 (Nat.not_lt.mpr h3)
set_option maxHeartbeats 4000000 in
theorem whole_start {p : Program} {e : Env} {s : State} {m : MethodId} {below : List Frame} {meth : Method} {c : Code} (l : Launch) (hflags : l.flags = flags0) {b L : Nat} {xs : Nat → Int32} (hL : L ≤ 260) (C0 : lw_At p s m meth c b L xs) : W p l e room_1 s m #[Value.ref b] below meth c s.heap [] 0 0 (lw_Z below #[Value.ref b] s) (entryFrame m ([Value.ref b] : List Value).toArray 8) := by
  obtain ⟨hx, hb, hr, hml, hown, hts, hX, hbl, hlocks, hgv⟩ := id C0
  have kn : ∀ ci : Nat, ∃ (cC : ClassId) (iS : Nat → Nat), ∀ q : vw_C, classes[ci]? = some q → u_Kn s q.1 q.2.1 q.2.2 cC iS := fun ci => match ci with
    | 0 => by
      obtain ⟨c0, i0, h⟩ := u_known (C := RX0) (T := TX0) (N := 2) (n := 2) hts (fun w hw => TBL_in _ (cis_0.2.1 w hw)) (hts _ (TBL_in _ ln_X8_36.2.1))
      exact ⟨c0, i0, fun q hq => by cases hq; exact h⟩
    | 1 => by
      obtain ⟨c0, i0, h⟩ := u_known (C := RX1) (T := TX1) (N := 4) (n := 4) hts (fun w hw => TBL_in _ (cis_1.2.1 w hw)) (hts _ (TBL_in _ ln_X8_57.2.1))
      exact ⟨c0, i0, fun q hq => by cases hq; exact h⟩
    | 2 => by
      obtain ⟨c0, i0, h⟩ := u_known (C := RX2) (T := TX2) (N := 4) (n := 4) hts (fun w hw => TBL_in _ (cis_2.2.1 w hw)) (hts _ (TBL_in _ ln_X8_50.2.1))
      exact ⟨c0, i0, fun q hq => by cases hq; exact h⟩
    | 3 => by
      obtain ⟨c0, i0, h⟩ := u_known (C := RX3) (T := TX3) (N := 5) (n := 5) hts (fun w hw => TBL_in _ (cis_3.2.1 w hw)) (hts _ (TBL_in _ ln_X7_27.2.1))
      exact ⟨c0, i0, fun q hq => by cases hq; exact h⟩
    | 4 => by
      obtain ⟨c0, i0, h⟩ := u_known (C := RX4) (T := TX4) (N := 5) (n := 5) hts (fun w hw => TBL_in _ (cis_4.2.1 w hw)) (hts _ (TBL_in _ ln_X7_9.2.1))
      exact ⟨c0, i0, fun q hq => by cases hq; exact h⟩
    | 5 => by
      obtain ⟨c0, i0, h⟩ := u_known (C := RX5) (T := TX5) (N := 4) (n := 4) hts (fun w hw => TBL_in _ (cis_5.2.1 w hw)) (hts _ (TBL_in _ ln_X8_43.2.1))
      exact ⟨c0, i0, fun q hq => by cases hq; exact h⟩
    | 6 => by
      obtain ⟨c0, i0, h⟩ := u_known (C := RX6) (T := TX6) (N := 2) (n := 2) hts (fun w hw => TBL_in _ (cis_6.2.1 w hw)) (hts _ (TBL_in _ ln_X2_9.2.1))
      exact ⟨c0, i0, fun q hq => by cases hq; exact h⟩
    | 7 => by
      obtain ⟨c0, i0, h⟩ := u_known (C := RX7) (T := TX7) (N := 8) (n := 8) hts (fun w hw => TBL_in _ (cis_7.2.1 w hw)) (hts _ (TBL_in _ ln_X8_9.2.1))
      exact ⟨c0, i0, fun q hq => by cases hq; exact h⟩
    | 8 => by
      obtain ⟨c0, i0, h⟩ := u_known (C := RX8) (T := TX8) (N := 9) (n := 9) hts (fun w hw => TBL_in _ (cis_8.2.1 w hw)) (hts _ (TBL_in _ ln_L_10.2.1))
      exact ⟨c0, i0, fun q hq => by cases hq; exact h⟩
    | k + 9 => ⟨0, fun _ => 0, fun q hq => by simp [classes] at hq⟩
  obtain ⟨aI, kI, compI, hI1, hI2, hI3⟩ := Cond.arrayClass_spec (hts (.arrayClass .int) (TBL_in _ ac_int))
  obtain ⟨aZ, kZ, compZ, hZ1, hZ2, hZ3⟩ := Cond.arrayClass_spec (hts (.arrayClass .boolean) (TBL_in _ ac_boolean))
  have hao := hts (.arrayOver (.object "ContextCoder$State")) (List.mem_of_getElem? (i := 146) (by decide +kernel))
  obtain ⟨compQ, aQ, kQ, hQ1, -, hQ2, hQ3, hQ4⟩ := Cond.arrayOver_spec hao
  have hK : pK ((fun ci => (kn ci).choose, fun ci => (kn ci).choose_spec.choose), fun j => if j = 0 then aI else if j = 1 then aZ else aQ) s := by
    refine ⟨⟨fun ci q hq => (kn ci).choose_spec.choose_spec q hq, fun k q hq => ?_⟩, fun w hw hn => va_tabs (isNest_tab hn) rfl (hts w hw), va_AO.of hao⟩
    match k, hq with
    | 0, hq => cases hq; exact ⟨fun n z => ⟨fun k h => (by cases h), kI, hI2, compI, hI3⟩, hI1⟩
    | 1, hq => cases hq; exact ⟨fun n z => ⟨fun k h => (by cases h), kZ, hZ2, compZ, hZ3⟩, hZ1⟩
    | 2, hq => cases hq; exact ⟨fun n z => ⟨fun k h => (by cases h), kQ, hQ2, compQ, hQ3⟩, kQ, compQ, hQ2, hQ3, hQ1, hQ4⟩
    | k + 3, hq => simp at hq
  rw [lg_entry_eq]
  have h0 := lv_entry ([.ref b]) (n := 8) (Nat.le_of_ble_eq_true rfl)
  have K := law_start (bS := b) (LS := L) (xS := xs) hL (z := s.heap.size) _ p l e room_1 s m #[.ref b] below meth c (fun q => s.heap.size ≤ q) s.heap [] _ ⟨hx, hb, hml, hown, fun w hw => hts w (TBL_in _ hw), hlocks, hr, fun h => absurd h (by decide), rfl, hK⟩ ⟨fun a e h => (by cases h), rfl, va_S.rf, fun q e h => (by cases h), fun q h => h⟩ ⟨rfl, h0.1, h0.2.1, fun i v hiv => h0.2.2 (i, v) (by
    have h1 : (i, v) ∈ en 0 [some (Value.ref b), none, none, none, none, none, none, none] := (mem_en _ 0 (i, v)).mpr ⟨Nat.zero_le _, by simpa using hiv⟩
    exact h1)⟩ ⟨hX, hbl, Nat.not_le.mpr hbl⟩
  intro T hT Xs
  obtain ⟨t, st, o, h1, h2, hq, Lx, hF, hfree⟩ := K T hT Xs
  obtain ⟨⟨r, M', ho, hr1, -⟩, -⟩ := hq
  have hr2 : r = some (vI 1) := hr1
  refine ⟨t, st, o, h1, h2, by rw [ho, hr2]; rfl, fEnd hF hfree⟩
-- ===== YOUR PART ENDS =====
set_option maxHeartbeats 4000000 in
theorem lw_walk (l : Launch) (hflags : l.flags = flags0) (b : Addr) (xs : List Int32) : MetFree l x (headSpec (Jvm.Cond.code x code maxLocals ret :: tables_1) room_1) (lw_P b xs) (fun _ _ _ _ _ => True) lw_Q := by
  refine MetFree.of_bodyS (code := code) (maxLocals := maxLocals) (ret := ret) (by decide) ?_ ?_
  · intro args s m h hn
    obtain ⟨meth, c, h1, h2, h3, h4, h5, h6, -, -⟩ := Cond.code_spec hn (atoms_spec (ws := Jvm.Cond.code x code maxLocals ret :: tables_1) h _ List.mem_cons_self)
    exact ⟨meth, c, h1, h2, h3, h4, h5, h6⟩
  · intro p e s m args below meth c s₁ B hml0 hP _
    obtain ⟨rfl, hx, hbd, hgv⟩ := hP
    obtain ⟨scr, harrAt, hlist, hof, hsmall⟩ := hx
    obtain ⟨hcb, hkn, -, -⟩ := State.arrayAt?_spec harrAt
    have hown : s.vm.findClass R_law = some m.cls := findClass_of_methodNamed B.named
    have hts0 : ∀ c ∈ (Jvm.Cond.code x code maxLocals ret :: tables_1), c.before #[Value.ref b] s = true := atoms_spec (ws := Jvm.Cond.code x code maxLocals ret :: tables_1) B.pre
    have hts : ∀ w ∈ lw_tbl, w.before #[Value.ref b] s = true := k2_hts_sels lw_privs (fun w hw => hts0 w (List.mem_cons_of_mem _ hw)) lw_privs_ok
    have hml : c.maxLocals = 8 := B.maxLocals_eq (hts0 _ List.mem_cons_self)
    have X₀ : Stand p l e room_1 s m #[Value.ref b] below meth c s₁ [] 0 0 := Stand.of_body B
    have hh0 : s₁.heap = s.heap := by rw [B.state]; rfl
    have hsz : scr.slots.size = xs.length := by rw [← Array.length_toList, hlist, List.length_map]
    have hval : ∀ j : Nat, j < xs.length → scr.slots[j]? = some (.int (xs.getD j 0)) := fun j hj => by
      rw [← Array.getElem?_toList, hlist]
      simp [hj]
    have hbl : b < s.heap.size := (Array.getElem?_eq_some_iff.mp hcb).1
    have hX : va_X b xs.length (fun j => xs.getD j 0) s s.heap := ⟨scr, hcb, hof, hkn, hsz, hval⟩
    have K : W p l e room_1 s m #[Value.ref b] below meth c s₁.heap [] 0 0 (lw_Z below #[Value.ref b] s) (entryFrame m ([Value.ref b] : List Value).toArray 8) := by
      rw [hh0]
      exact whole_start l hflags hbd ⟨B.exec, B.bytes, B.returns, hml, hown, hts, hX, hbl, B.notSynchronized, hgv⟩
    obtain ⟨t, a1, o, b1, b2, b3⟩ := K s₁ rfl X₀
    exact ⟨t, o, a1, b1, b2, b3⟩
theorem lw_pre_spec {args : Array Value} {s : State} (h : (Jvm.Cond.and given_1 narrow_1).before args s = true) (hr : rest_1_c.before args s = true) : ∃ (b : Addr) (xs : List Int32), lw_P b xs args s := by
  have hs := flat_of_before _ h
  have hq := flat_of_before _ hr
  have hc : (Cond.count 1).before args s = true := hs _ (by decide +kernel)
  have harr : (Cond.arrayOf (.arg 0) .int).before args s = true := hs _ (by decide +kernel)
  have hle : (Cond.le (.length (.arg 0)) (.int 260)).before args s = true := hs _ (by decide +kernel)
  have hlen : (Cond.isInt (.length (.arg 0))).before args s = true := hq _ (by decide +kernel)
  have hall : (Cond.all (.arg 0) (.isInt (.elem (.arg 0) (.index 0)))).before args s = true := hq _ (by decide +kernel)
  obtain ⟨b, xs, hb, hx⟩ := State.ints_of_pre rfl harr hlen hall
  have hsm : xs.length < 2 ^ 31 := hx.choose_spec.2.2.2
  have hev : (Term.length (.arg 0)).eval args s none [] s = some (.int xs.length.toInt32) := hx.length_eval hb
  have hv := Cond.le_ints hev (show (Term.int 260).eval args s none [] s = some (.int 260) from rfl)
  have hd : xs.length.toInt32 ≤ 260 := by
    simpa [Cond.before, Cond.holds, hv] using hle
  have hN : xs.length ≤ 260 := (Int32.ofNat_le_ofNat hsm (by decide)).mp (show Int32.ofNat xs.length ≤ Int32.ofNat 260 from hd)
  exact ⟨b, xs, Cond.one_arg hc (show args[0]? = some (.ref b) from hb), hx, hN, h⟩
theorem lw_comes (l : Launch) (hflags : l.flags = flags0) : Comes l x (Jvm.Cond.code x code maxLocals ret :: tables_1) room_1 (fun tb e args s => Calls_1 tb e args s ∧ rest_1 tb e args s ∧ Pre_1 tb e args s)
    (fun _ _ args s o t => lw_Q args s o t) := by
  intro p e ha hc hk s m args below hf hfit hheap happ hpre
  obtain ⟨b, xs, hP⟩ := lw_pre_spec hpre.2.2 hpre.2.1
  obtain ⟨k, o, h1, h2, h3, hQ⟩ := lw_walk l hflags b xs p e ha hc hk s m args below hf ((Spec.applies_iff_loose hf).mp happ).1 hP trivial
  exact ⟨k, o, h1, h2, h3, hQ⟩
theorem lw_frame {s t : State} {o : Outcome} {args : Array Value} (h : Framed s o t [] 600000 7302250) :
    Framed s o t (fieldLocs frame_1_writes args s ++ arrayLocs frame_1_arrays args s ++ staticLocs frame_1_statics s) 600000 7302250 := h
theorem lw_limb (L : Cond) (hL : ∀ (args : Array Value) (s t : State), L.after args s (.returned (some (.int 1))) t = true) :
    ArmFor flags0 classFile x code maxLocals ret World_1 tables_1 room_1 Calls_1 rest_1 Pre_1
      (fun tb e a s o t => postC L tb e a s o t ∧ Framed s o t (fieldLocs frame_1_writes a s ++ arrayLocs frame_1_arrays a s ++ staticLocs frame_1_statics s) 600000 7302250) := by
  intro l hflags _ _ p e ha hc hk s m args below hf hfit hheap happ hpre
  obtain ⟨k, o, h1, h2, h3, rfl, hF⟩ := lw_comes l hflags p e ha hc hk s m args below hf hfit hheap happ hpre
  exact ⟨k, _, h1, h2, h3, hL args s _, lw_frame hF⟩
theorem i_vc : Claimed_1_1 ∧ Claimed_1_2 := ⟨lw_limb limb_1_1 (fun args s t => by simp [limb_1_1, Cond.after, Cond.holds, Cond.value]), lw_limb limb_1_2 (fun args s t => Cond.after_iff.mpr (by
  first | (rw [show limb_1_2 = Cond.eq .result (.int 1) from rfl, Cond.eq_ints (x := 1) (y := 1) rfl rfl]; simp; done) | (simp [limb_1_2, Cond.value, Term.eval]; done)))⟩
