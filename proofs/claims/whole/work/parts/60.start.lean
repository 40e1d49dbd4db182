/-! THE CLAIM OUT OF ONE WALK OF THE LAW'S BODY. Your part is whole_start (and what it stands on); all else here is the same for every law, but numbers. -/
def R_law : String := "ContextCoderLaw"
def lw_P (b : Addr) (xs : List Int32) (args : Array Value) (s : State) : Prop := args = #[.ref b] ∧ s.IntsAt b xs ∧ xs.length ≤ 1537 ∧ (Jvm.Cond.and given_1 narrow_1).before args s = true
def lw_Q (_ : Array Value) (s : State) (o : Outcome) (t : State) : Prop := o = .returned (some (.int 1)) ∧ Framed s o t [] 600000 7302250
def lw_Z (below : List Frame) (a : Array Value) (s : State) : State → Prop := fun t => ∃ o, t.status = .running ∧ Ended t below o ∧ lw_Q a s o t
/-- the law's own end, with 1 on the stack, nothing written that was there before, its room as the claim has it -/
theorem lw_ret {p : Program} {l : Launch} {e : Env} {s : State} {m : MethodId} {below : List Frame} {meth : Method} {c : Code} {b : Nat} (hx : p.tables.exec = Jvm.exec) (hb : c.code = code) (hr : meth.sig.returnType = ret) (hlocks : meth.locks = false) {pc : Nat} {H : Heap} {ls : Array Slot} (hdg : decode code pc = .ok (.ireturn, 1)) : W p l e room_1 s m #[Value.ref b] below meth c H [] 600000 7302250 (lw_Z below #[Value.ref b] s) (F0 m pc ls [.int 1]) := by
  intro T hT X
  obtain ⟨fs, hret, hrun, hended, hW, hframe⟩ := X.leave (v := some (.int 1)) (hlocks := hlocks) (fun h => by rw [hr] at h; cases h)
  have hmeth' : T.vm.method? m = some meth := X.method'
  refine ⟨T.setFrames fs, ?_, .returned (some (.int 1)), hrun, hended, rfl, ⟨_, rfl⟩, hW, hframe⟩
  jvm_step X.here [X.here.top, hx, hb, hdg, hmeth', hr, ret, narrow_b1]
  (try refine ⟨rfl, ?_⟩); (try refine ⟨rfl, ?_⟩)
  first | (intro acts; rw [hret _ acts rfl rfl rfl]) | rw [hret _ _ rfl rfl rfl]
  exact Steps.refl _
/-- what holds at the law's entry: the machine, the code, the tables' words (any of lw_tbl by 'hts w (by decide +kernel)'), the script of L ints xs at the cell b, what the Statement gives of the start (any of its parts by flat_of_before) -/
def lw_At (p : Program) (s : State) (m : MethodId) (meth : Method) (c : Code) (b L : Nat) (xs : Nat → Int32) : Prop :=
  p.tables.exec = Jvm.exec ∧ c.code = code ∧ meth.sig.returnType = ret ∧ c.maxLocals = 4 ∧ s.vm.findClass R_law = some m.cls ∧ (∀ w ∈ lw_tbl, w.before #[Value.ref b] s = true) ∧ va_X b L xs s s.heap ∧ b < s.heap.size ∧ meth.locks = false ∧ (Jvm.Cond.and given_1 narrow_1).before #[Value.ref b] s = true
set_option maxHeartbeats 4000000 in
theorem law_start {bS LS : Nat} {xS : Nat → Int32} (hL : LS ≤ 1537) {z : Nat} : GS bS LS xS I_L_law 600000 7302250 (fun M' z' r => r = some (vI 1)) 0 0 0 [some (.ref bS), none, none, none] [] (fun _ => none) z := by
  have hv : -2147483648 ≤ (if 0 < LS then (xS 0).toInt else 0) ∧ (if 0 < LS then (xS 0).toInt else 0) < 2147483648 := by
    split
    · exact x32_rng _
    · omega
  refine hz_new cis_8 ln_L_7 dL_law_0 df_X8 (Nat.le_of_ble_eq_true rfl) (Nat.le_of_ble_eq_true rfl) (fun M _ m_x o => ?_)
  refine hg_dup dL_law_3 rfl ?_
  refine hg_aload_n dL_law_4 rfl ?_
  refine hz_iconst dL_law_5 ?_
  refine hz_callX dL_law_6 lm_L_9 lk_L_cell (x_cell hL) rfl rfl (mkRoom rfl rfl) (Nat.le_of_ble_eq_true rfl) (Nat.le_of_ble_eq_true rfl) (Nat.le_of_ble_eq_true rfl) ?_
  refine hz_callN dL_law_9 lm_L_15 lk_X8_init (n_X8 hv m_x) rfl rfl (mkRoom rfl rfl) (Nat.le_of_ble_eq_true rfl) (Nat.le_of_ble_eq_true rfl) (Nat.le_of_ble_eq_true rfl) rfl (fun M hC oN => ?_)
  refine hg_astore_n dL_law_12 rfl (Nat.le_of_ble_eq_true rfl) ?_
  refine hz_new cis_9 ln_L_18 dL_law_13 df_X9 (Nat.le_of_ble_eq_true rfl) (Nat.le_of_ble_eq_true rfl) (fun M _ m_m o => ?_)
  have oN : Off _ M (z + 131) (z + 132) := fun x hx => o x (by omega)
  have hC := hC.off oN (by omega)
  refine hg_dup dL_law_16 rfl ?_
  refine hg_aload_n dL_law_17 rfl ?_
  refine hz_iconst dL_law_18 ?_
  refine hz_callX dL_law_19 lm_L_9 lk_L_cell (x_cell hL) rfl rfl (mkRoom rfl rfl) (Nat.le_of_ble_eq_true rfl) (Nat.le_of_ble_eq_true rfl) (Nat.le_of_ble_eq_true rfl) ?_
  refine hz_callN dL_law_22 lm_L_20 lk_X9_init (n_X9 hv m_m) rfl rfl (mkRoom rfl rfl) (Nat.le_of_ble_eq_true rfl) (Nat.le_of_ble_eq_true rfl) (Nat.le_of_ble_eq_true rfl) rfl (fun M hR oN => ?_)
  have hC := hC.off oN (by omega)
  refine hg_astore_n dL_law_25 rfl (Nat.le_of_ble_eq_true rfl) ?_
  refine hz_iconst dL_law_26 ?_
  refine hg_istore_n dL_law_27 rfl (Nat.le_of_ble_eq_true rfl) ?_
  exact law_loop hL (c := z) (Nat.le_of_ble_eq_true rfl) (Nat.le_of_ble_eq_true rfl) LS 1 M _ (Nat.le_refl 1) (by omega) (by omega) hC hR
-- ===== YOUR PART BEGINS =====
theorem fEnd {s : State} {o : Outcome} {t : State} {L : List Loc} {k n : Nat} (h : FrameEnd s o t L k n) (hf : ∀ q ∈ L, s.heap.size ≤ q.base) : Framed s o t [] k n := by
  obtain ⟨h1, h2, q1, q2, q3, q4, q5, q6⟩ := h
  refine ⟨h1, h2, q1, q2, q3, q4, q5, fun a c hc => ?_⟩
  obtain ⟨c', e1, e2, e3, e4⟩ := q6 a c hc
  refine ⟨c', e1, e2, e3, fun i _ => e4 i (fun hm => ?_)⟩
  have h3 := hf _ hm
  have h4 := (Array.getElem?_eq_some_iff.mp hc).1
  exact absurd h4 (Nat.not_lt.mpr h3)
set_option maxHeartbeats 4000000 in
theorem whole_start {p : Program} {e : Env} {s : State} {m : MethodId} {below : List Frame} {meth : Method} {c : Code} (l : Launch) (hflags : l.flags = flags0) {b L : Nat} {xs : Nat → Int32} (hL : L ≤ 1537) (C0 : lw_At p s m meth c b L xs) : W p l e room_1 s m #[Value.ref b] below meth c s.heap [] 0 0 (lw_Z below #[Value.ref b] s) (entryFrame m ([Value.ref b] : List Value).toArray 4) := by
  obtain ⟨hx, hb, hr, hml, hown, hts, hX, hbl, hlocks, hgv⟩ := id C0
  have kn : ∀ ci : Nat, ∃ (cC : ClassId) (iS : Nat → Nat), ∀ q : vw_C, classes[ci]? = some q → u_Kn s q.1 q.2.1 q.2.2 cC iS := fun ci => match ci with
    | 0 => by
      obtain ⟨c0, i0, h⟩ := u_known (C := RX0) (T := TX0) (N := 2) (n := 2) hts (fun w hw => TBL_in _ (cis_0.2.1 w hw)) (hts _ (TBL_in _ ln_X8_36.2.1))
      exact ⟨c0, i0, fun q hq => by cases hq; exact h⟩
    | 1 => by
      obtain ⟨c0, i0, h⟩ := u_known (C := RX1) (T := TX1) (N := 4) (n := 4) hts (fun w hw => TBL_in _ (cis_1.2.1 w hw)) (hts _ (TBL_in _ ln_X8_57.2.1))
      exact ⟨c0, i0, fun q hq => by cases hq; exact h⟩
    | 2 => by
      obtain ⟨c0, i0, h⟩ := u_known (C := RX2) (T := TX2) (N := 4) (n := 4) hts (fun w hw => TBL_in _ (cis_2.2.1 w hw)) (hts _ (TBL_in _ ln_X8_50.2.1))
      exact ⟨c0, i0, fun q hq => by cases hq; exact h⟩
    | 3 => by
      obtain ⟨c0, i0, h⟩ := u_known (C := RX3) (T := TX3) (N := 5) (n := 5) hts (fun w hw => TBL_in _ (cis_3.2.1 w hw)) (hts _ (TBL_in _ ln_X7_27.2.1))
      exact ⟨c0, i0, fun q hq => by cases hq; exact h⟩
    | 4 => by
      obtain ⟨c0, i0, h⟩ := u_known (C := RX4) (T := TX4) (N := 5) (n := 5) hts (fun w hw => TBL_in _ (cis_4.2.1 w hw)) (hts _ (TBL_in _ ln_X7_9.2.1))
      exact ⟨c0, i0, fun q hq => by cases hq; exact h⟩
    | 5 => by
      obtain ⟨c0, i0, h⟩ := u_known (C := RX5) (T := TX5) (N := 4) (n := 4) hts (fun w hw => TBL_in _ (cis_5.2.1 w hw)) (hts _ (TBL_in _ ln_X8_43.2.1))
      exact ⟨c0, i0, fun q hq => by cases hq; exact h⟩
    | 6 => by
      obtain ⟨c0, i0, h⟩ := u_known (C := RX6) (T := TX6) (N := 2) (n := 2) hts (fun w hw => TBL_in _ (cis_6.2.1 w hw)) (hts _ (TBL_in _ ln_X2_9.2.1))
      exact ⟨c0, i0, fun q hq => by cases hq; exact h⟩
    | 7 => by
      obtain ⟨c0, i0, h⟩ := u_known (C := RX7) (T := TX7) (N := 8) (n := 8) hts (fun w hw => TBL_in _ (cis_7.2.1 w hw)) (hts _ (TBL_in _ ln_X8_9.2.1))
      exact ⟨c0, i0, fun q hq => by cases hq; exact h⟩
    | 8 => by
      obtain ⟨c0, i0, h⟩ := u_known (C := RX8) (T := TX8) (N := 9) (n := 9) hts (fun w hw => TBL_in _ (cis_8.2.1 w hw)) (hts _ (TBL_in _ ln_L_7.2.1))
      exact ⟨c0, i0, fun q hq => by cases hq; exact h⟩
    | 9 => by
      obtain ⟨c0, i0, h⟩ := u_known (C := RX9) (T := TX9) (N := 22) (n := 22) hts (fun w hw => TBL_in _ (cis_9.2.1 w hw)) (hts _ (TBL_in _ ln_L_18.2.1))
      exact ⟨c0, i0, fun q hq => by cases hq; exact h⟩
    | k + 10 => ⟨0, fun _ => 0, fun q hq => by simp [classes] at hq⟩
  obtain ⟨aI, kI, compI, hI1, hI2, hI3⟩ := Cond.arrayClass_spec (hts (.arrayClass .int) (TBL_in _ ac_int))
  obtain ⟨aZ, kZ, compZ, hZ1, hZ2, hZ3⟩ := Cond.arrayClass_spec (hts (.arrayClass .boolean) (TBL_in _ ac_boolean))
  have hao := hts (.arrayOver (.object "ContextCoder$State")) (List.mem_of_getElem? (i := 174) (by decide +kernel))
  obtain ⟨compQ, aQ, kQ, hQ1, -, hQ2, hQ3, hQ4⟩ := Cond.arrayOver_spec hao
  have hK : pK ((fun ci => (kn ci).choose, fun ci => (kn ci).choose_spec.choose), fun j => if j = 0 then aI else if j = 1 then aZ else aQ) s := by
    refine ⟨⟨fun ci q hq => (kn ci).choose_spec.choose_spec q hq, fun k q hq => ?_⟩, fun w hw hn => va_tabs (isNest_tab hn) rfl (hts w hw), va_AO.of hao⟩
    match k, hq with
    | 0, hq => cases hq; exact ⟨fun n z => ⟨fun k h => (by cases h), kI, hI2, compI, hI3⟩, hI1⟩
    | 1, hq => cases hq; exact ⟨fun n z => ⟨fun k h => (by cases h), kZ, hZ2, compZ, hZ3⟩, hZ1⟩
    | 2, hq => cases hq; exact ⟨fun n z => ⟨fun k h => (by cases h), kQ, hQ2, compQ, hQ3⟩, kQ, compQ, hQ2, hQ3, hQ1, hQ4⟩
    | k + 3, hq => simp at hq
  rw [lg_entry_eq]
  have h0 := lv_entry ([.ref b]) (n := 4) (Nat.le_of_ble_eq_true rfl)
  have K := law_start (bS := b) (LS := L) (xS := xs) hL (z := s.heap.size) _ p l e room_1 s m #[.ref b] below meth c (fun q => s.heap.size ≤ q) s.heap [] _ ⟨hx, hb, hml, hown, fun w hw => hts w (TBL_in _ hw), hlocks, hr, fun h => absurd h (by decide), rfl, hK⟩ ⟨fun a e h => (by cases h), rfl, va_S.rf, fun q e h => (by cases h), fun q h => h⟩ ⟨rfl, h0.1, h0.2.1, fun i v hiv => h0.2.2 (i, v) (by
    have h1 : (i, v) ∈ en 0 [some (Value.ref b), none, none, none] := (mem_en _ 0 (i, v)).mpr ⟨Nat.zero_le _, by simpa using hiv⟩
    exact h1)⟩ ⟨hX, hbl, Nat.not_le.mpr hbl⟩
  intro T hT Xs
  obtain ⟨t, st, o, h1, h2, hq, Lx, hF, hfree⟩ := K T hT Xs
  obtain ⟨⟨r, M', ho, hr1, -⟩, -⟩ := hq
  have hr2 : r = some (vI 1) := hr1
  refine ⟨t, st, o, h1, h2, by rw [ho, hr2]; rfl, fEnd hF hfree⟩
-- ===== YOUR PART ENDS =====
set_option maxHeartbeats 4000000 in
theorem lw_walk (l : Launch) (hflags : l.flags = flags0) (b : Addr) (xs : List Int32) : MetFree l x (headSpec (Jvm.Cond.code x code maxLocals ret :: tables_1) room_1) (lw_P b xs) (fun _ _ _ _ _ => True) lw_Q := by
  refine MetFree.of_bodyS (code := code) (maxLocals := maxLocals) (ret := ret) (by decide) ?_ ?_
  · intro args s m h hn
    obtain ⟨meth, c, h1, h2, h3, h4, h5, h6, -, -⟩ := Cond.code_spec hn (atoms_spec (ws := Jvm.Cond.code x code maxLocals ret :: tables_1) h _ List.mem_cons_self)
    exact ⟨meth, c, h1, h2, h3, h4, h5, h6⟩
  · intro p e s m args below meth c s₁ B hml0 hP _
    obtain ⟨rfl, hx, hbd, hgv⟩ := hP
    obtain ⟨scr, harrAt, hlist, hof, hsmall⟩ := hx
    obtain ⟨hcb, hkn, -, -⟩ := State.arrayAt?_spec harrAt
    have hown : s.vm.findClass R_law = some m.cls := findClass_of_methodNamed B.named
    have hts0 : ∀ c ∈ (Jvm.Cond.code x code maxLocals ret :: tables_1), c.before #[Value.ref b] s = true := atoms_spec (ws := Jvm.Cond.code x code maxLocals ret :: tables_1) B.pre
    have hts : ∀ w ∈ lw_tbl, w.before #[Value.ref b] s = true := k2_hts_sels lw_privs (fun w hw => hts0 w (List.mem_cons_of_mem _ hw)) lw_privs_ok
    have hml : c.maxLocals = 4 := B.maxLocals_eq (hts0 _ List.mem_cons_self)
    have X₀ : Stand p l e room_1 s m #[Value.ref b] below meth c s₁ [] 0 0 := Stand.of_body B
    have hh0 : s₁.heap = s.heap := by rw [B.state]; rfl
    have hsz : scr.slots.size = xs.length := by rw [← Array.length_toList, hlist, List.length_map]
    have hval : ∀ j : Nat, j < xs.length → scr.slots[j]? = some (.int (xs.getD j 0)) := fun j hj => by
      rw [← Array.getElem?_toList, hlist]
      simp [hj]
    have hbl : b < s.heap.size := (Array.getElem?_eq_some_iff.mp hcb).1
    have hX : va_X b xs.length (fun j => xs.getD j 0) s s.heap := ⟨scr, hcb, hof, hkn, hsz, hval⟩
    have K : W p l e room_1 s m #[Value.ref b] below meth c s₁.heap [] 0 0 (lw_Z below #[Value.ref b] s) (entryFrame m ([Value.ref b] : List Value).toArray 4) := by
      rw [hh0]
      exact whole_start l hflags hbd ⟨B.exec, B.bytes, B.returns, hml, hown, hts, hX, hbl, B.notSynchronized, hgv⟩
    obtain ⟨t, a1, o, b1, b2, b3⟩ := K s₁ rfl X₀
    exact ⟨t, o, a1, b1, b2, b3⟩
theorem lw_pre_spec {args : Array Value} {s : State} (h : (Jvm.Cond.and given_1 narrow_1).before args s = true) (hr : rest_1_c.before args s = true) : ∃ (b : Addr) (xs : List Int32), lw_P b xs args s := by
  have hs := flat_of_before _ h
  have hq := flat_of_before _ hr
  have hc : (Cond.count 1).before args s = true := hs _ (by decide +kernel)
  have harr : (Cond.arrayOf (.arg 0) .int).before args s = true := hs _ (by decide +kernel)
  have hle : (Cond.le (.length (.arg 0)) (.int 1537)).before args s = true := hs _ (by decide +kernel)
  have hlen : (Cond.isInt (.length (.arg 0))).before args s = true := hq _ (by decide +kernel)
  have hall : (Cond.all (.arg 0) (.isInt (.elem (.arg 0) (.index 0)))).before args s = true := hq _ (by decide +kernel)
  obtain ⟨b, xs, hb, hx⟩ := State.ints_of_pre rfl harr hlen hall
  have hsm : xs.length < 2 ^ 31 := hx.choose_spec.2.2.2
  have hev : (Term.length (.arg 0)).eval args s none [] s = some (.int xs.length.toInt32) := hx.length_eval hb
  have hv := Cond.le_ints hev (show (Term.int 1537).eval args s none [] s = some (.int 1537) from rfl)
  have hd : xs.length.toInt32 ≤ 1537 := by
    simpa [Cond.before, Cond.holds, hv] using hle
  have hN : xs.length ≤ 1537 := (Int32.ofNat_le_ofNat hsm (by decide)).mp (show Int32.ofNat xs.length ≤ Int32.ofNat 1537 from hd)
  exact ⟨b, xs, Cond.one_arg hc (show args[0]? = some (.ref b) from hb), hx, hN, h⟩
theorem lw_comes (l : Launch) (hflags : l.flags = flags0) : Comes l x (Jvm.Cond.code x code maxLocals ret :: tables_1) room_1 (fun tb e args s => Calls_1 tb e args s ∧ rest_1 tb e args s ∧ Pre_1 tb e args s)
    (fun _ _ args s o t => lw_Q args s o t) := by
  intro p e ha hc hk s m args below hf hfit hheap happ hpre
  obtain ⟨b, xs, hP⟩ := lw_pre_spec hpre.2.2 hpre.2.1
  obtain ⟨k, o, h1, h2, h3, hQ⟩ := lw_walk l hflags b xs p e ha hc hk s m args below hf ((Spec.applies_iff_loose hf).mp happ).1 hP trivial
  exact ⟨k, o, h1, h2, h3, hQ⟩
theorem lw_frame {s t : State} {o : Outcome} {args : Array Value} (h : Framed s o t [] 600000 7302250) :
    Framed s o t (fieldLocs frame_1_writes args s ++ arrayLocs frame_1_arrays args s ++ staticLocs frame_1_statics s) 600000 7302250 := h
theorem lw_limb (L : Cond) (hL : ∀ (args : Array Value) (s t : State), L.after args s (.returned (some (.int 1))) t = true) :
    ArmFor flags0 classFile x code maxLocals ret World_1 tables_1 room_1 Calls_1 rest_1 Pre_1
      (fun tb e a s o t => postC L tb e a s o t ∧ Framed s o t (fieldLocs frame_1_writes a s ++ arrayLocs frame_1_arrays a s ++ staticLocs frame_1_statics s) 600000 7302250) := by
  intro l hflags _ _ p e ha hc hk s m args below hf hfit hheap happ hpre
  obtain ⟨k, o, h1, h2, h3, rfl, hF⟩ := lw_comes l hflags p e ha hc hk s m args below hf hfit hheap happ hpre
  exact ⟨k, _, h1, h2, h3, hL args s _, lw_frame hF⟩
theorem i_vc : Claimed_1_1 ∧ Claimed_1_2 := ⟨lw_limb limb_1_1 (fun args s t => by simp [limb_1_1, Cond.after, Cond.holds, Cond.value]), lw_limb limb_1_2 (fun args s t => Cond.after_iff.mpr (by
  first | (rw [show limb_1_2 = Cond.eq .result (.int 1) from rfl, Cond.eq_ints (x := 1) (y := 1) rfl rfl]; simp; done) | (simp [limb_1_2, Cond.value, Term.eval]; done)))⟩
