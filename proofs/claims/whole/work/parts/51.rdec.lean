/-! the reference: a symbol is read -/
theorem rdp_no {g : Nat → Option (Nat → Int)} {exc : Int} {cs : List Int} {n : Nat} {ex : Nat → Bool} {d : ds} (h : g n = none) : rdp g exc cs (n + 1) ex d = rdp g exc cs n ex d := by rw [rdp, h]
theorem rdp_esc {g : Nat → Option (Nat → Int)} {exc : Int} {cs : List Int} {n : Nat} {ex : Nat → Bool} {d : ds} {c : Nat → Int} (h : g n = some c) (hc : ¬ dnum d (smx ex c 96 + kn c) < smx ex c 96) : rdp g exc cs (n + 1) ex d = rdp g exc cs n (lev exc ex c) (div_ cs d (smx ex c 96, smx ex c 96 + kn c, smx ex c 96 + kn c)) := by rw [rdp, h]; dsimp only; rw [if_neg hc]
theorem rdp_yes {g : Nat → Option (Nat → Int)} {exc : Int} {cs : List Int} {n : Nat} {ex : Nat → Bool} {d : ds} {c : Nat → Int} (h : g n = some c) (hc : dnum d (smx ex c 96 + kn c) < smx ex c 96) {s : Nat} (hs : fi (fun s => decide (dnum d (smx ex c 96 + kn c) < smx ex c (s + 1))) 96 = (s : Int)) : rdp g exc cs (n + 1) ex d = ((s : Int), div_ cs d (smx ex c s, smx ex c s + c s, smx ex c 96 + kn c)) := by rw [rdp, h]; dsimp only; rw [if_pos hc, hs, Int.toNat_natCast]
set_option maxHeartbeats 1000000 in
theorem r_decodes {M0 : pM} {z d : Nat} {pm ty lo mm lg co ec cd wr tc fm : Int} {D : ds} (m_d : M0 d = some (ro d pm ty lo D.2.2 mm lg co ec cd wr tc D.2.1 (D.1 : Int) fm)) {g : Nat → Int} (m_v : M0 (d + 1) = some (arI 25700 g)) {t : tbl} (hv : VM g t) (ht : okT t) (hS : okS (g 0) (g 1) (g 2) (g 3)) {q N n m : Nat} {xs cs : List Int} (h : Tx M0 q N xs) (hq : q ≠ d ∧ q ≠ d + 6) (hx : okX xs) (hn : n ≤ xs.length) {ex : Nat → Bool} (hg : Go M0 d ex) (hc : CB g cs) (hb : okB cs) (hk : okD D m) (hm : m ≤ 90000) : CW I_X9_decodes yX9_decodes [.ref d, .ref q, vI (n : Int)] M0 z (fun M' r => r = some (vI (rd t xs n (g 1) (g 0) cs D).1) ∧ M' d = some (ro d pm ty lo (rd t xs n (g 1) (g 0) cs D).2.2.2 mm lg 0 0 (-1) wr tc (rd t xs n (g 1) (g 0) cs D).2.2.1 ((rd t xs n (g 1) (g 0) cs D).2.1 : Int) fm) ∧ (∃ ex, Go M' d ex) ∧ (∀ x : Nat, ¬ (x = d ∨ x = d + 6) → M' x = M0 x)) := by
  obtain ⟨hS1, hS2, hS3, hS4⟩ := id hS
  obtain ⟨v1, v2, v3⟩ := id hv
  have hxl := h.len
  have fr : (∀ x : Nat, ¬ (x = d ∨ x = d + 6) → M0 x = M0 x) := fun _ _ => rfl
  refine C.intro (pl := [some (.ref d), some (.ref q), some (vI (n : Int)), none, none, none, none, none, none, none]) pn_X9 rfl (fun h => absurd h (by decide)) rfl (Nat.le_of_ble_eq_true rfl) rfl ?_
  have loop : ∀ (R : Int × ds) (k : Nat) (ex : Nat → Bool) (D : ds) (m : Nat) (M : pM), k ≤ 4 → (k : Int) ≤ g 0 + 1 → k ≤ n + 1 → rdp (fun j => cnO t (ky xs n j)) (g 1) cs k ex D = R → okD D m → m + 4 * k ≤ 90100 → M d = some (ro d pm ty lo D.2.2 mm lg 0 0 (-1) wr tc D.2.1 (D.1 : Int) fm) → M (d + 1) = some (arI 25700 g) → Tx M q N xs → Go M d ex → (∀ x : Nat, ¬ (x = d ∨ x = d + 6) → M x = M0 x) → ∀ K4 K5 K6 K7 K8 K9 : Option Value, G I_X9_decodes 0 0 (fun M' z' r' => z' = z ∧ r' = some (vI R.1) ∧ M' d = some (ro d pm ty lo R.2.2.2 mm lg 0 0 (-1) wr tc R.2.2.1 (R.2.1 : Int) fm) ∧ (∃ ex, Go M' d ex) ∧ (∀ x : Nat, ¬ (x = d ∨ x = d + 6) → M' x = M0 x)) 0 0 25 [some (.ref d), some (.ref q), some (vI (n : Int)), some (vI ((k : Int) - 1)), K4, K5, K6, K7, K8, K9] [] M z := by
    intro R k
    induction k with
    | zero =>
      intro ex D m M hk hk2 hk3 hR hkD hm m_d m_v h hg fr K4 K5 K6 K7 K8 K9
      obtain ⟨gg, m_go, hgg⟩ := id hg
      have hcn := cnx_rng ex 96
      have hR' : (if cnx ex 96 < 1 then (-1, D) else (fi (fun s => decide (dnum D (cnx ex 96) < cnx ex (s + 1))) 96, div_ cs D (dnum D (cnx ex 96), dnum D (cnx ex 96) + 1, cnx ex 96))) = R := hR
      have tailx2 : ∀ K5 K6 : Option Value, G I_X9_decodes 0 0 (fun M' z' r' => z' = z ∧ r' = some (vI R.1) ∧ M' d = some (ro d pm ty lo R.2.2.2 mm lg 0 0 (-1) wr tc R.2.2.1 (R.2.1 : Int) fm) ∧ (∃ ex, Go M' d ex) ∧ (∀ x : Nat, ¬ (x = d ∨ x = d + 6) → M' x = M0 x)) 0 0 202 [some (.ref d), some (.ref q), some (vI (n : Int)), some (vI (cnx ex 96)), some (vI ((96 : Nat) : Int)), K5, K6, K7, K8, K9] [] M z := by
        intro K5 K6
        by_cases h0 : cnx ex 96 < 1
        · rw [if_pos h0] at hR'
          rw [← hR']
          refine g_iload_n dX9_decodes_202 rfl ?_
          refine z_if_ne (tgt := 208) dX9_decodes_203 (by decide) (by omega) (fun c203 => absurd c203 (by omega)) (fun c203 => ?_)
          refine z_iconst dX9_decodes_206 ?_
          exact g_ireturn dX9_decodes_207 rfl (Nat.le_of_ble_eq_true rfl) (Nat.le_of_ble_eq_true rfl) ⟨rfl, rfl, m_d, ⟨ex, hg⟩, fr⟩
        · rw [if_neg h0] at hR'
          have hdn := dnum_rng (t := cnx ex 96) hkD (by omega)
          obtain ⟨s, f1, f2, f3, f4⟩ := fi_cnx hdn
          rw [f2] at hR'
          have hok : okI (dnum D (cnx ex 96), dnum D (cnx ex 96) + 1, cnx ex 96) := ⟨hdn.1, by dsimp only; omega, by dsimp only; omega, by dsimp only; omega⟩
          have li : ∀ (u y : Nat) (M : pM) (gg : Nat → Int), y + u = s → M d = some (ro d pm ty lo R.2.2.2 mm lg 0 0 (-1) wr tc R.2.2.1 (R.2.1 : Int) fm) → M (d + 6) = some (arZ 96 gg) → (∀ s, s < 96 → gg s = if ex s then 1 else 0) → (∀ x : Nat, ¬ (x = d ∨ x = d + 6) → M x = M0 x) → G I_X9_decodes 0 0 (fun M' z' r' => z' = z ∧ r' = some (vI R.1) ∧ M' d = some (ro d pm ty lo R.2.2.2 mm lg 0 0 (-1) wr tc R.2.2.1 (R.2.1 : Int) fm) ∧ (∃ ex, Go M' d ex) ∧ (∀ x : Nat, ¬ (x = d ∨ x = d + 6) → M' x = M0 x)) 0 0 233 [some (.ref d), some (.ref q), some (vI (n : Int)), some (vI (cnx ex 96)), some (vI (dnum D (cnx ex 96))), some (vI (dnum D (cnx ex 96) - cnx ex y)), some (vI (y : Int)), K7, K8, K9] [] M z := by
            intro u
            induction u with
            | zero =>
              intro y M gg hy m_d m_go hgg fr
              have e : y = s := by omega
              subst e
              have hg : Go M d ex := ⟨gg, m_go, hgg⟩
              have h4 : gg y = 0 := by rw [hgg y (by omega), f4]; rfl
              have e3 : dnum D (cnx ex 96) - cnx ex y = 0 := by omega
              rw [e3]
              refine g_aload_n dX9_decodes_233 rfl ?_
              refine z_getf fl_X9_26 dX9_decodes_234 m_d rfl ?_
              refine g_iload dX9_decodes_237 rfl ?_
              refine z_baload (j := y) dX9_decodes_239 m_go rfl (by omega) (by omega) ?_
              refine z_if_ne (tgt := 248) dX9_decodes_240 (by decide) (by omega) (fun c240 => absurd c240 (by omega)) (fun c240 => ?_)
              refine g_iload dX9_decodes_243 rfl ?_
              refine z_if_le (tgt := 274) dX9_decodes_245 (by decide) (by omega) (fun c245 => ?_) (fun c245 => absurd c245 (by omega))
              refine g_iload dX9_decodes_274 rfl ?_
              exact g_ireturn dX9_decodes_276 rfl (Nat.le_of_ble_eq_true rfl) (Nat.le_of_ble_eq_true rfl) ⟨rfl, by rw [← hR'], m_d, ⟨ex, hg⟩, fr⟩
            | succ u ihu =>
              intro y M gg hy m_d m_go hgg fr
              have ih2 := ihu (y + 1) M gg (by omega) m_d m_go hgg fr
              rw [cnx_s ex y] at ih2
              have hmono := cnx_mono (ex := ex) (n := s) (m := y + 1) (by omega)
              rw [cnx_s ex y] at hmono
              have hcy := cnx_rng ex y
              rcases go01 (hgg y (by omega)) with ⟨h3, h4⟩ | ⟨h3, h4⟩
              · rw [h3, if_pos rfl] at ih2
                rw [show dnum D (cnx ex 96) - (cnx ex y + 0) = dnum D (cnx ex 96) - cnx ex y - 0 by omega] at ih2
                refine g_aload_n dX9_decodes_233 rfl ?_
                refine z_getf fl_X9_26 dX9_decodes_234 m_d rfl ?_
                refine g_iload dX9_decodes_237 rfl ?_
                refine z_baload (j := y) dX9_decodes_239 m_go rfl (by omega) (by omega) ?_
                refine z_if_ne (tgt := 248) dX9_decodes_240 (by decide) (by omega) (fun c240 => ?_) (fun c240 => absurd c240 (by omega))
                refine g_iload dX9_decodes_248 rfl ?_
                refine g_aload_n dX9_decodes_250 rfl ?_
                refine z_getf fl_X9_26 dX9_decodes_251 m_d rfl ?_
                refine g_iload dX9_decodes_254 rfl ?_
                refine z_baload (j := y) dX9_decodes_256 m_go rfl (by omega) (by omega) ?_
                refine z_if_eq (tgt := 264) dX9_decodes_257 (by decide) (by omega) (fun c257 => absurd c257 (by omega)) (fun c257 => ?_)
                refine z_iconst dX9_decodes_260 ?_
                refine g_goto (tgt := 265) dX9_decodes_261 (by decide) ?_
                refine z_isub dX9_decodes_265 ?_
                refine g_istore dX9_decodes_266 (Nat.le_of_ble_eq_true rfl) ?_
                refine z_iinc dX9_decodes_268 rfl (Nat.le_of_ble_eq_true rfl) ?_
                refine g_goto (tgt := 233) dX9_decodes_271 (by decide) ?_
                exact ih2
              · rw [h3, if_neg Bool.false_ne_true] at ih2 hmono
                rw [show dnum D (cnx ex 96) - (cnx ex y + 1) = dnum D (cnx ex 96) - cnx ex y - 1 by omega] at ih2
                refine g_aload_n dX9_decodes_233 rfl ?_
                refine z_getf fl_X9_26 dX9_decodes_234 m_d rfl ?_
                refine g_iload dX9_decodes_237 rfl ?_
                refine z_baload (j := y) dX9_decodes_239 m_go rfl (by omega) (by omega) ?_
                refine z_if_ne (tgt := 248) dX9_decodes_240 (by decide) (by omega) (fun c240 => absurd c240 (by omega)) (fun c240 => ?_)
                refine g_iload dX9_decodes_243 rfl ?_
                refine z_if_le (tgt := 274) dX9_decodes_245 (by decide) (by omega) (fun c245 => absurd c245 (by omega)) (fun c245 => ?_)
                refine g_iload dX9_decodes_248 rfl ?_
                refine g_aload_n dX9_decodes_250 rfl ?_
                refine z_getf fl_X9_26 dX9_decodes_251 m_d rfl ?_
                refine g_iload dX9_decodes_254 rfl ?_
                refine z_baload (j := y) dX9_decodes_256 m_go rfl (by omega) (by omega) ?_
                refine z_if_eq (tgt := 264) dX9_decodes_257 (by decide) (by omega) (fun c257 => ?_) (fun c257 => absurd c257 (by omega))
                refine z_iconst dX9_decodes_264 ?_
                refine z_isub dX9_decodes_265 ?_
                refine g_istore dX9_decodes_266 (Nat.le_of_ble_eq_true rfl) ?_
                refine z_iinc dX9_decodes_268 rfl (Nat.le_of_ble_eq_true rfl) ?_
                refine g_goto (tgt := 233) dX9_decodes_271 (by decide) ?_
                exact ih2
          refine g_iload_n dX9_decodes_202 rfl ?_
          refine z_if_ne (tgt := 208) dX9_decodes_203 (by decide) (by omega) (fun c203 => ?_) (fun c203 => absurd c203 (by omega))
          refine g_aload_n dX9_decodes_208 rfl ?_
          refine g_iload_n dX9_decodes_209 rfl ?_
          refine z_callVR dX9_decodes_210 lm_X9_190 lk_X9_target (r_target (t := cnx ex 96) m_d hkD (by omega)) rfl rfl m_d rfl (mkRoom rfl rfl) (Nat.le_of_ble_eq_true rfl) (Nat.le_of_ble_eq_true rfl) (Nat.le_of_ble_eq_true rfl) ?_
          refine g_istore dX9_decodes_213 (Nat.le_of_ble_eq_true rfl) ?_
          refine g_aload_n dX9_decodes_215 rfl ?_
          refine g_iload dX9_decodes_216 rfl ?_
          refine g_iload dX9_decodes_218 rfl ?_
          refine z_iconst dX9_decodes_220 ?_
          refine z_iadd dX9_decodes_221 ?_
          refine g_iload_n dX9_decodes_222 rfl ?_
          refine z_callVV dX9_decodes_223 lm_X9_193 lk_X9_reads (r_reads m_d m_v hc hb hkD (by omega) hok (by omega)) rfl rfl m_d rfl (mkRoom rfl rfl) (Nat.le_of_ble_eq_true rfl) (Nat.le_of_ble_eq_true rfl) (Nat.le_of_ble_eq_true rfl) (fun M r hp => ?_)
          obtain ⟨rfl, m_d, o1⟩ := hp
          have hg := hg.by_ (o1 _ (by omega))
          have m_v := (o1 _ (by omega)).trans m_v
          have h := h.by_ (o1 _ (by omega))
          have fr : (∀ x : Nat, ¬ (x = d ∨ x = d + 6) → M x = M0 x) := fun x hx => (o1 x (by omega)).trans (fr x hx)
          refine g_iload dX9_decodes_226 rfl ?_
          refine g_istore dX9_decodes_228 (Nat.le_of_ble_eq_true rfl) ?_
          refine z_iconst dX9_decodes_230 ?_
          refine g_istore dX9_decodes_231 (Nat.le_of_ble_eq_true rfl) ?_
          rw [show div_ cs D (dnum D (cnx ex 96), dnum D (cnx ex 96) + 1, cnx ex 96) = R.2 by rw [← hR']] at m_d
          have l0 := li s 0 M gg (by omega) m_d ((o1 _ (by omega)).trans m_go) hgg fr
          rw [show cnx ex 0 = 0 from rfl, Int.sub_zero] at l0
          exact l0
      have lc : ∀ (u y : Nat), y + u = 96 → ∀ K5 K6 : Option Value, G I_X9_decodes 0 0 (fun M' z' r' => z' = z ∧ r' = some (vI R.1) ∧ M' d = some (ro d pm ty lo R.2.2.2 mm lg 0 0 (-1) wr tc R.2.2.1 (R.2.1 : Int) fm) ∧ (∃ ex, Go M' d ex) ∧ (∀ x : Nat, ¬ (x = d ∨ x = d + 6) → M' x = M0 x)) 0 0 171 [some (.ref d), some (.ref q), some (vI (n : Int)), some (vI (cnx ex y)), some (vI (y : Int)), K5, K6, K7, K8, K9] [] M z := by
        intro u
        induction u with
        | zero =>
          intro y hy K5 K6
          have e : y = 96 := by omega
          subst e
          refine g_iload dX9_decodes_171 rfl ?_
          refine z_bipush dX9_decodes_173 (by decide +kernel) ?_
          refine z_icmp_ge (tgt := 202) dX9_decodes_175 (by decide) (by omega) (by omega) (fun c175 => ?_) (fun c175 => absurd c175 (by omega))
          exact tailx2 K5 K6
        | succ u ihu =>
          intro y hy K5 K6
          have ih2 := ihu (y + 1) (by omega) K5 K6
          rw [cnx_s ex y] at ih2
          rcases go01 (hgg y (by omega)) with ⟨h3, h4⟩ | ⟨h3, h4⟩
          · rw [h3, if_pos rfl] at ih2
            refine g_iload dX9_decodes_171 rfl ?_
            refine z_bipush dX9_decodes_173 (by decide +kernel) ?_
            refine z_icmp_ge (tgt := 202) dX9_decodes_175 (by decide) (by omega) (by omega) (fun c175 => absurd c175 (by omega)) (fun c175 => ?_)
            refine g_iload_n dX9_decodes_178 rfl ?_
            refine g_aload_n dX9_decodes_179 rfl ?_
            refine z_getf fl_X9_26 dX9_decodes_180 m_d rfl ?_
            refine g_iload dX9_decodes_183 rfl ?_
            refine z_baload (j := y) dX9_decodes_185 m_go rfl (by omega) (by omega) ?_
            refine z_if_eq (tgt := 193) dX9_decodes_186 (by decide) (by omega) (fun c186 => absurd c186 (by omega)) (fun c186 => ?_)
            refine z_iconst dX9_decodes_189 ?_
            refine g_goto (tgt := 194) dX9_decodes_190 (by decide) ?_
            refine z_iadd dX9_decodes_194 ?_
            refine g_istore_n dX9_decodes_195 rfl (Nat.le_of_ble_eq_true rfl) ?_
            refine z_iinc dX9_decodes_196 rfl (Nat.le_of_ble_eq_true rfl) ?_
            refine g_goto (tgt := 171) dX9_decodes_199 (by decide) ?_
            exact ih2
          · rw [h3, if_neg Bool.false_ne_true] at ih2
            refine g_iload dX9_decodes_171 rfl ?_
            refine z_bipush dX9_decodes_173 (by decide +kernel) ?_
            refine z_icmp_ge (tgt := 202) dX9_decodes_175 (by decide) (by omega) (by omega) (fun c175 => absurd c175 (by omega)) (fun c175 => ?_)
            refine g_iload_n dX9_decodes_178 rfl ?_
            refine g_aload_n dX9_decodes_179 rfl ?_
            refine z_getf fl_X9_26 dX9_decodes_180 m_d rfl ?_
            refine g_iload dX9_decodes_183 rfl ?_
            refine z_baload (j := y) dX9_decodes_185 m_go rfl (by omega) (by omega) ?_
            refine z_if_eq (tgt := 193) dX9_decodes_186 (by decide) (by omega) (fun c186 => ?_) (fun c186 => absurd c186 (by omega))
            refine z_iconst dX9_decodes_193 ?_
            refine z_iadd dX9_decodes_194 ?_
            refine g_istore_n dX9_decodes_195 rfl (Nat.le_of_ble_eq_true rfl) ?_
            refine z_iinc dX9_decodes_196 rfl (Nat.le_of_ble_eq_true rfl) ?_
            refine g_goto (tgt := 171) dX9_decodes_199 (by decide) ?_
            exact ih2
      refine g_iload_n dX9_decodes_25 rfl ?_
      refine z_if_lt (tgt := 166) dX9_decodes_26 (by decide) (by omega) (fun c26 => ?_) (fun c26 => absurd c26 (by omega))
      refine z_iconst dX9_decodes_166 ?_
      refine g_istore_n dX9_decodes_167 rfl (Nat.le_of_ble_eq_true rfl) ?_
      refine z_iconst dX9_decodes_168 ?_
      refine g_istore dX9_decodes_169 (Nat.le_of_ble_eq_true rfl) ?_
      exact lc 96 0 (by omega) K5 K6
    | succ k ih =>
      intro ex D m M hk hk2 hk3 hR hkD hm m_d m_v h hg fr K4 K5 K6 K7 K8 K9
      obtain ⟨gg, m_go, hgg⟩ := id hg
      have e0 : (((k + 1 : Nat) : Int) - 1) = (k : Int) := by omega
      rw [e0]
      rcases fnd_cases t (ky xs n k) with ⟨f1, f2⟩ | ⟨i, hi, f1, f2⟩
      · rw [rdp_no (cnO_no (by rw [f1]; decide))] at hR
        refine g_iload_n dX9_decodes_25 rfl ?_
        refine z_if_lt (tgt := 166) dX9_decodes_26 (by decide) (by omega) (fun c26 => absurd c26 (by omega)) (fun c26 => ?_)
        refine g_aload_n dX9_decodes_29 rfl ?_
        refine g_aload_n dX9_decodes_30 rfl ?_
        refine g_iload_n dX9_decodes_31 rfl ?_
        refine g_iload_n dX9_decodes_32 rfl ?_
        refine z_callVR dX9_decodes_33 lm_X9_57 lk_X9_find ((r_find m_d m_v hv h hx hn (by omega) (by omega)).eq (by rw [f1])) rfl rfl m_d rfl (mkRoom rfl rfl) (Nat.le_of_ble_eq_true rfl) (Nat.le_of_ble_eq_true rfl) (Nat.le_of_ble_eq_true rfl) ?_
        refine g_istore dX9_decodes_36 (Nat.le_of_ble_eq_true rfl) ?_
        refine g_iload dX9_decodes_38 rfl ?_
        refine z_if_lt (tgt := 160) dX9_decodes_40 (by decide) (by omega) (fun c40 => ?_) (fun c40 => absurd c40 (by omega))
        refine z_iinc dX9_decodes_160 rfl (Nat.le_of_ble_eq_true rfl) ?_
        refine g_goto (tgt := 25) dX9_decodes_163 (by decide) ?_
        rw [show (k : Int) + -1 = (k : Int) - 1 by omega]
        exact ih ex D m M (by omega) (by omega) (by omega) hR hkD (by omega) m_d m_v h hg fr _ _ _ _ _ _
      · have hcn : cnO t (ky xs n k) = some t[i].2 := cnO_at f1 hi
        have hoc := ht.at hi
        obtain ⟨-, w1⟩ := v3 i hi
        generalize t[i].2 = cc at hcn hoc w1
        have hsm : ∀ (n : Nat), n ≤ 96 → smx ex (gr g i) n = smx ex cc n := fun n hn => sm_cong (fun s hs => by rw [w1 s (by omega)])
        have hkn : kn (gr g i) = kn cc := sm_cong (fun s hs => by rw [w1 s hs])
        have hr : ∀ s, s < 96 → 0 ≤ gr g i s ∧ gr g i s ≤ 2000 := fun s hs => by rw [w1 s hs]; have := hoc.cnt hs; omega
        have hs96 := hoc.smx ex (Nat.le_refl 96)
        have hkr := kn_rng cc
        have hk1 := hoc.2.2
        have hi250 : i < 250 := by omega
        have hdn := dnum_rng (t := smx ex cc 96 + kn cc) hkD (by omega)
        by_cases hw : dnum D (smx ex cc 96 + kn cc) < smx ex cc 96
        · obtain ⟨s, hs, g1, g2, g3, g4⟩ := fi_smx ⟨hdn.1, hw⟩
          rw [rdp_yes hcn hw g1] at hR
          have hR1 : R.1 = (s : Int) := by rw [← hR]
          have hR2 : R.2 = div_ cs D (smx ex cc s, smx ex cc s + cc s, smx ex cc 96 + kn cc) := by rw [← hR]
          have hcs := w1 s hs
          have hok := okI_sym hoc hs g4 (show 0 < cc s by omega)
          have hss := hoc.smx ex (n := s) (by omega)
          have hcr := hoc.cnt hs
          have lw : ∀ (u y : Nat), y + u = s → G I_X9_decodes 0 0 (fun M' z' r' => z' = z ∧ r' = some (vI R.1) ∧ M' d = some (ro d pm ty lo R.2.2.2 mm lg 0 0 (-1) wr tc R.2.2.1 (R.2.1 : Int) fm) ∧ (∃ ex, Go M' d ex) ∧ (∀ x : Nat, ¬ (x = d ∨ x = d + 6) → M' x = M0 x)) 0 0 82 [some (.ref d), some (.ref q), some (vI (n : Int)), some (vI (k : Int)), some (vI (i : Int)), some (vI (smx ex cc 96)), some (vI (kn cc)), some (vI (dnum D (smx ex cc 96 + kn cc))), some (vI (y : Int)), K9] [] M z := by
            intro u
            induction u with
            | zero =>
              intro y hy
              have e : y = s := by omega
              subst e
              have hsx : smx ex cc (y + 1) = smx ex cc y + cc y := by rw [smx_s, g4, if_neg Bool.false_ne_true]
              refine g_aload_n dX9_decodes_82 rfl ?_
              refine g_iload dX9_decodes_83 rfl ?_
              refine g_iload dX9_decodes_85 rfl ?_
              refine z_iconst dX9_decodes_87 ?_
              refine z_iadd dX9_decodes_88 ?_
              refine G.top (v' := vI ((y + 1 : Nat) : Int)) (by rw [show (y : Int) + 1 = ((y + 1 : Nat) : Int) by omega]) ?_
              refine z_callVR dX9_decodes_89 lm_X9_116 lk_X9_below ((r_below (n := y + 1) m_d m_v hi250 (by omega) hg).eq (by rw [hsm _ (by omega)])) rfl rfl m_d rfl (mkRoom rfl rfl) (Nat.le_of_ble_eq_true rfl) (Nat.le_of_ble_eq_true rfl) (Nat.le_of_ble_eq_true rfl) ?_
              refine g_iload dX9_decodes_92 rfl ?_
              refine z_icmp_gt (tgt := 103) dX9_decodes_94 (by decide) (by omega) (by omega) (fun c94 => ?_) (fun c94 => absurd c94 (by omega))
              refine g_aload_n dX9_decodes_103 rfl ?_
              refine g_iload dX9_decodes_104 rfl ?_
              refine g_iload dX9_decodes_106 rfl ?_
              refine z_callVR dX9_decodes_108 lm_X9_116 lk_X9_below ((r_below (n := y) m_d m_v hi250 (by omega) hg).eq (by rw [hsm _ (by omega)])) rfl rfl m_d rfl (mkRoom rfl rfl) (Nat.le_of_ble_eq_true rfl) (Nat.le_of_ble_eq_true rfl) (Nat.le_of_ble_eq_true rfl) ?_
              refine g_istore dX9_decodes_111 (Nat.le_of_ble_eq_true rfl) ?_
              refine g_aload_n dX9_decodes_113 rfl ?_
              refine g_iload dX9_decodes_114 rfl ?_
              refine g_iload dX9_decodes_116 rfl ?_
              refine g_aload_n dX9_decodes_118 rfl ?_
              refine g_iload dX9_decodes_119 rfl ?_
              refine g_iload dX9_decodes_121 rfl ?_
              refine z_callVR dX9_decodes_123 lm_X9_49 lk_X9_countAt ((r_countAt (s := y) m_d m_v hi250 hs).eq (by rw [hcs])) rfl rfl m_d rfl (mkRoom rfl rfl) (Nat.le_of_ble_eq_true rfl) (Nat.le_of_ble_eq_true rfl) (Nat.le_of_ble_eq_true rfl) ?_
              refine z_iadd dX9_decodes_126 ?_
              refine g_iload dX9_decodes_127 rfl ?_
              refine g_iload dX9_decodes_129 rfl ?_
              refine z_iadd dX9_decodes_131 ?_
              refine z_callVV dX9_decodes_132 lm_X9_193 lk_X9_reads (r_reads m_d m_v hc hb hkD (by omega) hok (by omega)) rfl rfl m_d rfl (mkRoom rfl rfl) (Nat.le_of_ble_eq_true rfl) (Nat.le_of_ble_eq_true rfl) (Nat.le_of_ble_eq_true rfl) (fun M r hp => ?_)
              obtain ⟨rfl, m_d, o1⟩ := hp
              have hg := hg.by_ (o1 _ (by omega))
              have m_v := (o1 _ (by omega)).trans m_v
              have h := h.by_ (o1 _ (by omega))
              have fr : (∀ x : Nat, ¬ (x = d ∨ x = d + 6) → M x = M0 x) := fun x hx => (o1 x (by omega)).trans (fr x hx)
              refine g_iload dX9_decodes_135 rfl ?_
              exact g_ireturn dX9_decodes_137 rfl (Nat.le_of_ble_eq_true rfl) (Nat.le_of_ble_eq_true rfl) ⟨rfl, by rw [hR1], by rw [hR2]; exact m_d, ⟨ex, hg⟩, fr⟩
            | succ u ihu =>
              intro y hy
              have ih2 := ihu (y + 1) (by omega)
              have hmono := smx_mono (ex := ex) (c := cc) (n := s) (m := y + 1) (by omega) (fun x hx => (hoc.cnt (show x < 96 by omega)).1)
              have hny := hoc.smx ex (n := y + 1) (by omega)
              refine g_aload_n dX9_decodes_82 rfl ?_
              refine g_iload dX9_decodes_83 rfl ?_
              refine g_iload dX9_decodes_85 rfl ?_
              refine z_iconst dX9_decodes_87 ?_
              refine z_iadd dX9_decodes_88 ?_
              refine G.top (v' := vI ((y + 1 : Nat) : Int)) (by rw [show (y : Int) + 1 = ((y + 1 : Nat) : Int) by omega]) ?_
              refine z_callVR dX9_decodes_89 lm_X9_116 lk_X9_below ((r_below (n := y + 1) m_d m_v hi250 (by omega) hg).eq (by rw [hsm _ (by omega)])) rfl rfl m_d rfl (mkRoom rfl rfl) (Nat.le_of_ble_eq_true rfl) (Nat.le_of_ble_eq_true rfl) (Nat.le_of_ble_eq_true rfl) ?_
              refine g_iload dX9_decodes_92 rfl ?_
              refine z_icmp_gt (tgt := 103) dX9_decodes_94 (by decide) (by omega) (by omega) (fun c94 => absurd c94 (by omega)) (fun c94 => ?_)
              refine z_iinc dX9_decodes_97 rfl (Nat.le_of_ble_eq_true rfl) ?_
              refine g_goto (tgt := 82) dX9_decodes_100 (by decide) ?_
              exact ih2
          refine g_iload_n dX9_decodes_25 rfl ?_
          refine z_if_lt (tgt := 166) dX9_decodes_26 (by decide) (by omega) (fun c26 => absurd c26 (by omega)) (fun c26 => ?_)
          refine g_aload_n dX9_decodes_29 rfl ?_
          refine g_aload_n dX9_decodes_30 rfl ?_
          refine g_iload_n dX9_decodes_31 rfl ?_
          refine g_iload_n dX9_decodes_32 rfl ?_
          refine z_callVR dX9_decodes_33 lm_X9_57 lk_X9_find ((r_find m_d m_v hv h hx hn (by omega) (by omega)).eq (by rw [f1])) rfl rfl m_d rfl (mkRoom rfl rfl) (Nat.le_of_ble_eq_true rfl) (Nat.le_of_ble_eq_true rfl) (Nat.le_of_ble_eq_true rfl) ?_
          refine g_istore dX9_decodes_36 (Nat.le_of_ble_eq_true rfl) ?_
          refine g_iload dX9_decodes_38 rfl ?_
          refine z_if_lt (tgt := 160) dX9_decodes_40 (by decide) (by omega) (fun c40 => absurd c40 (by omega)) (fun c40 => ?_)
          refine g_aload_n dX9_decodes_43 rfl ?_
          refine g_iload dX9_decodes_44 rfl ?_
          refine z_bipush dX9_decodes_46 (by decide +kernel) ?_
          refine z_callVR dX9_decodes_48 lm_X9_116 lk_X9_below ((r_below m_d m_v hi250 (Nat.le_refl 96) hg).eq (by rw [hsm 96 (Nat.le_refl _)])) rfl rfl m_d rfl (mkRoom rfl rfl) (Nat.le_of_ble_eq_true rfl) (Nat.le_of_ble_eq_true rfl) (Nat.le_of_ble_eq_true rfl) ?_
          refine g_istore dX9_decodes_51 (Nat.le_of_ble_eq_true rfl) ?_
          refine g_aload_n dX9_decodes_53 rfl ?_
          refine g_iload dX9_decodes_54 rfl ?_
          refine z_callVR dX9_decodes_56 lm_X9_119 lk_X9_known ((r_known m_d m_v hi250 hr).eq (by rw [hkn])) rfl rfl m_d rfl (mkRoom rfl rfl) (Nat.le_of_ble_eq_true rfl) (Nat.le_of_ble_eq_true rfl) (Nat.le_of_ble_eq_true rfl) ?_
          refine g_istore dX9_decodes_59 (Nat.le_of_ble_eq_true rfl) ?_
          refine g_aload_n dX9_decodes_61 rfl ?_
          refine g_iload dX9_decodes_62 rfl ?_
          refine g_iload dX9_decodes_64 rfl ?_
          refine z_iadd dX9_decodes_66 ?_
          refine z_callVR dX9_decodes_67 lm_X9_190 lk_X9_target (r_target (t := smx ex cc 96 + kn cc) m_d hkD (by omega)) rfl rfl m_d rfl (mkRoom rfl rfl) (Nat.le_of_ble_eq_true rfl) (Nat.le_of_ble_eq_true rfl) (Nat.le_of_ble_eq_true rfl) ?_
          refine g_istore dX9_decodes_70 (Nat.le_of_ble_eq_true rfl) ?_
          refine g_iload dX9_decodes_72 rfl ?_
          refine g_iload dX9_decodes_74 rfl ?_
          refine z_icmp_ge (tgt := 138) dX9_decodes_76 (by decide) (by omega) (by omega) (fun c76 => absurd c76 (by omega)) (fun c76 => ?_)
          refine z_iconst dX9_decodes_79 ?_
          refine g_istore dX9_decodes_80 (Nat.le_of_ble_eq_true rfl) ?_
          exact lw s 0 (by omega)
        · rw [rdp_esc hcn hw] at hR
          have hok := okI_esc (ex := ex) hoc
          have hkD2 := okD_div hb hkD hok (by dsimp only; omega)
          refine g_iload_n dX9_decodes_25 rfl ?_
          refine z_if_lt (tgt := 166) dX9_decodes_26 (by decide) (by omega) (fun c26 => absurd c26 (by omega)) (fun c26 => ?_)
          refine g_aload_n dX9_decodes_29 rfl ?_
          refine g_aload_n dX9_decodes_30 rfl ?_
          refine g_iload_n dX9_decodes_31 rfl ?_
          refine g_iload_n dX9_decodes_32 rfl ?_
          refine z_callVR dX9_decodes_33 lm_X9_57 lk_X9_find ((r_find m_d m_v hv h hx hn (by omega) (by omega)).eq (by rw [f1])) rfl rfl m_d rfl (mkRoom rfl rfl) (Nat.le_of_ble_eq_true rfl) (Nat.le_of_ble_eq_true rfl) (Nat.le_of_ble_eq_true rfl) ?_
          refine g_istore dX9_decodes_36 (Nat.le_of_ble_eq_true rfl) ?_
          refine g_iload dX9_decodes_38 rfl ?_
          refine z_if_lt (tgt := 160) dX9_decodes_40 (by decide) (by omega) (fun c40 => absurd c40 (by omega)) (fun c40 => ?_)
          refine g_aload_n dX9_decodes_43 rfl ?_
          refine g_iload dX9_decodes_44 rfl ?_
          refine z_bipush dX9_decodes_46 (by decide +kernel) ?_
          refine z_callVR dX9_decodes_48 lm_X9_116 lk_X9_below ((r_below m_d m_v hi250 (Nat.le_refl 96) hg).eq (by rw [hsm 96 (Nat.le_refl _)])) rfl rfl m_d rfl (mkRoom rfl rfl) (Nat.le_of_ble_eq_true rfl) (Nat.le_of_ble_eq_true rfl) (Nat.le_of_ble_eq_true rfl) ?_
          refine g_istore dX9_decodes_51 (Nat.le_of_ble_eq_true rfl) ?_
          refine g_aload_n dX9_decodes_53 rfl ?_
          refine g_iload dX9_decodes_54 rfl ?_
          refine z_callVR dX9_decodes_56 lm_X9_119 lk_X9_known ((r_known m_d m_v hi250 hr).eq (by rw [hkn])) rfl rfl m_d rfl (mkRoom rfl rfl) (Nat.le_of_ble_eq_true rfl) (Nat.le_of_ble_eq_true rfl) (Nat.le_of_ble_eq_true rfl) ?_
          refine g_istore dX9_decodes_59 (Nat.le_of_ble_eq_true rfl) ?_
          refine g_aload_n dX9_decodes_61 rfl ?_
          refine g_iload dX9_decodes_62 rfl ?_
          refine g_iload dX9_decodes_64 rfl ?_
          refine z_iadd dX9_decodes_66 ?_
          refine z_callVR dX9_decodes_67 lm_X9_190 lk_X9_target (r_target (t := smx ex cc 96 + kn cc) m_d hkD (by omega)) rfl rfl m_d rfl (mkRoom rfl rfl) (Nat.le_of_ble_eq_true rfl) (Nat.le_of_ble_eq_true rfl) (Nat.le_of_ble_eq_true rfl) ?_
          refine g_istore dX9_decodes_70 (Nat.le_of_ble_eq_true rfl) ?_
          refine g_iload dX9_decodes_72 rfl ?_
          refine g_iload dX9_decodes_74 rfl ?_
          refine z_icmp_ge (tgt := 138) dX9_decodes_76 (by decide) (by omega) (by omega) (fun c76 => ?_) (fun c76 => absurd c76 (by omega))
          refine g_aload_n dX9_decodes_138 rfl ?_
          refine g_iload dX9_decodes_139 rfl ?_
          refine g_iload dX9_decodes_141 rfl ?_
          refine g_iload dX9_decodes_143 rfl ?_
          refine z_iadd dX9_decodes_145 ?_
          refine g_iload dX9_decodes_146 rfl ?_
          refine g_iload dX9_decodes_148 rfl ?_
          refine z_iadd dX9_decodes_150 ?_
          refine z_callVV dX9_decodes_151 lm_X9_193 lk_X9_reads (r_reads m_d m_v hc hb hkD (by omega) hok (by omega)) rfl rfl m_d rfl (mkRoom rfl rfl) (Nat.le_of_ble_eq_true rfl) (Nat.le_of_ble_eq_true rfl) (Nat.le_of_ble_eq_true rfl) (fun M r hp => ?_)
          obtain ⟨rfl, m_d, o1⟩ := hp
          have hg := hg.by_ (o1 _ (by omega))
          have m_v := (o1 _ (by omega)).trans m_v
          have h := h.by_ (o1 _ (by omega))
          have fr : (∀ x : Nat, ¬ (x = d ∨ x = d + 6) → M x = M0 x) := fun x hx => (o1 x (by omega)).trans (fr x hx)
          refine g_aload_n dX9_decodes_154 rfl ?_
          refine g_iload dX9_decodes_155 rfl ?_
          refine z_callVV dX9_decodes_157 lm_X9_126 lk_X9_excludes (r_excludes m_d m_v hi250 hg hS2 hr) rfl rfl m_d rfl (mkRoom rfl rfl) (Nat.le_of_ble_eq_true rfl) (Nat.le_of_ble_eq_true rfl) (Nat.le_of_ble_eq_true rfl) (fun M r hp => ?_)
          obtain ⟨rfl, hg, o1⟩ := hp
          have m_d := (o1 _ (by omega)).trans m_d
          have m_v := (o1 _ (by omega)).trans m_v
          have h := h.by_ (o1 _ (by omega))
          have hg := hg.cong (ex2 := lev (g 1) ex cc) (fun s hs => by rw [lev_v, lev_v, w1 s hs])
          have fr : (∀ x : Nat, ¬ (x = d ∨ x = d + 6) → M x = M0 x) := fun x hx => (o1 x (by omega)).trans (fr x hx)
          refine z_iinc dX9_decodes_160 rfl (Nat.le_of_ble_eq_true rfl) ?_
          refine g_goto (tgt := 25) dX9_decodes_163 (by decide) ?_
          rw [show (k : Int) + -1 = (k : Int) - 1 by omega]
          exact ih (lev (g 1) ex cc) _ (m + 4) M (by omega) (by omega) (by omega) hR hkD2 (by omega) m_d m_v h hg fr _ _ _ _ _ _
  refine g_aload_n dX9_decodes_0 rfl ?_
  refine z_callVV dX9_decodes_1 lm_X9_113 lk_X9_clears (r_clears m_d hg) rfl rfl m_d rfl (mkRoom rfl rfl) (Nat.le_of_ble_eq_true rfl) (Nat.le_of_ble_eq_true rfl) (Nat.le_of_ble_eq_true rfl) (fun M r hp => ?_)
  obtain ⟨rfl, m_d, hg, o1⟩ := hp
  have m_v := (o1 _ (by omega)).trans m_v
  have h := h.by_ (o1 _ (by omega))
  have fr : (∀ x : Nat, ¬ (x = d ∨ x = d + 6) → M x = M0 x) := fun x hx => (o1 x (by omega)).trans (fr x hx)
  refine g_iload_n dX9_decodes_4 rfl ?_
  refine g_aload_n dX9_decodes_5 rfl ?_
  refine z_getf fl_X9_7 dX9_decodes_6 m_d rfl ?_
  refine z_iconst dX9_decodes_9 ?_
  refine z_iaload (j := 0) dX9_decodes_10 m_v rfl (by omega) (by omega) ?_
  refine z_icmp_ge (tgt := 18) dX9_decodes_11 (by decide) (by omega) (by omega) (fun c11 => ?_) (fun c11 => ?_)
  · refine g_aload_n dX9_decodes_18 rfl ?_
    refine z_getf fl_X9_7 dX9_decodes_19 m_d rfl ?_
    refine z_iconst dX9_decodes_22 ?_
    refine z_iaload (j := 0) dX9_decodes_23 m_v rfl (by omega) (by omega) ?_
    refine g_istore_n dX9_decodes_24 rfl (Nat.le_of_ble_eq_true rfl) ?_
    have lp := fun K4 K5 K6 K7 K8 K9 => loop (rd t xs n (g 1) (g 0) cs D) (nOrd (g 0) n) (fun _ => false) D m M (by unfold nOrd; omega) (by unfold nOrd; omega) (by unfold nOrd; omega) rfl hk (by unfold nOrd; omega) m_d m_v h hg fr K4 K5 K6 K7 K8 K9
    rw [show ((nOrd (g 0) n : Nat) : Int) - 1 = (g 0) by unfold nOrd; omega] at lp
    exact lp _ _ _ _ _ _
  · refine g_iload_n dX9_decodes_14 rfl ?_
    refine g_goto (tgt := 24) dX9_decodes_15 (by decide) ?_
    refine g_istore_n dX9_decodes_24 rfl (Nat.le_of_ble_eq_true rfl) ?_
    have lp := fun K4 K5 K6 K7 K8 K9 => loop (rd t xs n (g 1) (g 0) cs D) (nOrd (g 0) n) (fun _ => false) D m M (by unfold nOrd; omega) (by unfold nOrd; omega) (by unfold nOrd; omega) rfl hk (by unfold nOrd; omega) m_d m_v h hg fr K4 K5 K6 K7 K8 K9
    rw [show ((nOrd (g 0) n : Nat) : Int) - 1 = (n : Int) by unfold nOrd; omega] at lp
    exact lp _ _ _ _ _ _
