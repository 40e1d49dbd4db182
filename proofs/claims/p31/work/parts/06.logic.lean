/-! THE LOGIC OF THIS CLAIM: a memory is a partial function from addresses to cells; G: what a method does from a point on; C: a method's contract -/
abbrev pE : Type := (Nat × vp_A) ⊕ (Nat × List Value)
abbrev pM : Type := Nat → Option pE
abbrev pT : Type := va_G × (Nat → ClassId)
abbrev MI : Type := ByteArray × Nat × Option FieldType × String × Nat × Nat × Bool
def pCv (E : pT) (x : pE) : va_E := match x with
  | .inl a => .inl (E.2 a.1, a.2)
  | .inr o => .inr o
def pH (E : pT) (M : pM) (H : Heap) : Prop := ∀ (a : Nat) (e : pE), M a = some e → va_at E.1 classes (a, pCv E e) H
def TBL : List Cond := lw_tbl.filter goodWord
def isNest : Cond → Bool
  | .fieldLinkNest .. => true
  | .methodLinkNest .. => true
  | _ => false
theorem isNest_tab {w : Cond} (h : isNest w = true) : w.onTables = true := by
  cases w <;> first | rfl | (simp [isNest] at h)
def pK (E : pT) (s : State) : Prop := va_K E.1 classes [(E.2 0, .int), (E.2 1, .boolean), (E.2 2, .object "ContextCoder$State")] s ∧ (∀ w ∈ lw_tbl, isNest w = true → va_Nw w s) ∧ va_AO "ContextCoder$State" s
theorem pK.moved {E : pT} {s U : State} (hW : s.WarmedH U.vm) (h : pK E s) : pK E U := by
  refine ⟨va_K.moved hW.alike h.1, fun w hw hn => ?_, h.2.2.moved hW.alike⟩
  have h1 := h.2.1 w hw hn
  cases w <;> first | exact va_Nw.warmF hW h1 | exact va_Nw.warmM hW h1 | (simp [isNest] at hn)
theorem pK.same {E : pT} {s U : State} (hv : s.vm = U.vm) (hA : s.vm.Alike U.vm) (h : pK E s) : pK E U :=
  ⟨va_K.moved hA h.1, fun w hw hn => va_Nw.same (isNest_tab hn) hv (h.2.1 w hw hn), h.2.2.moved hA⟩
theorem mem_TBL {w : Cond} (i : Nat) (h : lw_tbl[i]? = some w) (g : goodWord w = true) : w ∈ TBL := List.mem_filter.mpr ⟨List.mem_of_getElem? h, g⟩
theorem TBL_good : ∀ w ∈ TBL, (w.onTables && w.keeps) = true ∨ ∃ ty, w = .arrayClass ty := fun w h => good_of_word (List.mem_filter.mp h).2
theorem TBL_in : ∀ w ∈ TBL, w ∈ lw_tbl := fun w h => (List.mem_filter.mp h).1
/-- the locals, place by place -/
def lvv (ls : Array Slot) (n : Nat) (pl : List (Option Value)) : Prop := pl.length = n ∧ ls.size = n ∧ lv_wf ls ∧ ∀ (i : Nat) (v : Value), pl[i]? = some (some v) → ls[i]? = some (.val v)
def en : Nat → List (Option Value) → List (Nat × Value)
  | _, [] => []
  | k, none :: t => en (k + 1) t
  | k, some v :: t => (k, v) :: en (k + 1) t
theorem mem_en : ∀ (pl : List (Option Value)) (k : Nat) (q : Nat × Value), q ∈ en k pl ↔ k ≤ q.1 ∧ pl[q.1 - k]? = some (some q.2)
  | [], k, q => by simp [en]
  | none :: t, k, q => by
    rw [en, mem_en t (k + 1) q]
    constructor
    · intro ⟨h1, h2⟩
      refine ⟨by omega, ?_⟩
      rw [show q.1 - k = (q.1 - (k + 1)) + 1 by omega]
      simpa using h2
    · intro ⟨h1, h2⟩
      by_cases h : q.1 = k
      · rw [h] at h2; simp at h2
      · refine ⟨by omega, ?_⟩
        rw [show q.1 - k = (q.1 - (k + 1)) + 1 by omega] at h2
        simpa using h2
  | some v :: t, k, q => by
    rw [en, List.mem_cons, mem_en t (k + 1) q]
    constructor
    · rintro (rfl | ⟨h1, h2⟩)
      · simp
      · refine ⟨by omega, ?_⟩
        rw [show q.1 - k = (q.1 - (k + 1)) + 1 by omega]
        simpa using h2
    · intro ⟨h1, h2⟩
      by_cases h : q.1 = k
      · rw [h] at h2
        simp at h2
        exact Or.inl (by cases q; simp_all)
      · refine Or.inr ⟨by omega, ?_⟩
        rw [show q.1 - k = (q.1 - (k + 1)) + 1 by omega] at h2
        simpa using h2
theorem lvv_en {ls : Array Slot} {n : Nat} {pl : List (Option Value)} (h : lvv ls n pl) : lv_has ls n (en 0 pl) :=
  ⟨h.2.1, h.2.2.1, fun q hq => h.2.2.2 q.1 q.2 (by simpa using (mem_en pl 0 q).mp hq)⟩
def k2c (o : Option Value) : Option Value := match o with
  | some (.long _) => none
  | some (.double _) => none
  | x => x
def s1 : List (Option Value) → Nat → Value → List (Option Value)
  | [], _, _ => []
  | _ :: t, 0, v => some v :: t
  | o :: t, 1, v => k2c o :: s1 t 0 v
  | o :: t, n + 2, v => o :: s1 t (n + 1) v
def s2 : List (Option Value) → Nat → Value → List (Option Value)
  | [], _, _ => []
  | _ :: _ :: t, 0, v => some v :: none :: t
  | [_], 0, v => [some v]
  | o :: t, 1, v => k2c o :: s2 t 0 v
  | o :: t, n + 2, v => o :: s2 t (n + 1) v
theorem s1_len : ∀ (pl : List (Option Value)) (i : Nat) (v : Value), (s1 pl i v).length = pl.length
  | [], _, _ => rfl
  | _ :: _, 0, _ => rfl
  | o :: t, 1, v => by simp [s1, s1_len t 0 v]
  | o :: t, n + 2, v => by simp [s1, s1_len t (n + 1) v]
theorem s2_len : ∀ (pl : List (Option Value)) (i : Nat) (v : Value), (s2 pl i v).length = pl.length
  | [], _, _ => rfl
  | [_], 0, _ => rfl
  | _ :: _ :: _, 0, _ => rfl
  | o :: t, 1, v => by simp [s2, s2_len t 0 v]
  | o :: t, n + 2, v => by simp [s2, s2_len t (n + 1) v]
theorem k2c_some {o : Option Value} {w : Value} (h : k2c o = some w) : o = some w ∧ w.category = 1 := by
  match o, h with
  | some (.int x), h => simp [k2c] at h; subst h; exact ⟨rfl, rfl⟩
  | some (.float x), h => simp [k2c] at h; subst h; exact ⟨rfl, rfl⟩
  | some (.ref x), h => simp [k2c] at h; subst h; exact ⟨rfl, rfl⟩
  | some .null, h => simp [k2c] at h; subst h; exact ⟨rfl, rfl⟩
  | some (.retAddr x), h => simp [k2c] at h; subst h; exact ⟨rfl, rfl⟩
  | some (.long x), h => simp [k2c] at h
  | some (.double x), h => simp [k2c] at h
  | none, h => simp [k2c] at h
theorem s1_get : ∀ (pl : List (Option Value)) (i : Nat) (v : Value) (j : Nat) (w : Value), (s1 pl i v)[j]? = some (some w) → (j = i ∧ w = v) ∨ (j ≠ i ∧ pl[j]? = some (some w) ∧ ¬ (j + 1 = i ∧ w.category = 2))
  | [], i, v, j, w, h => by simp [s1] at h
  | o :: t, 0, v, 0, w, h => by simp [s1] at h; exact Or.inl ⟨rfl, h.symm⟩
  | o :: t, 0, v, j + 1, w, h => by simp [s1] at h; exact Or.inr ⟨by omega, by simpa using h, by omega⟩
  | o :: t, 1, v, 0, w, h => by
    simp only [s1, List.getElem?_cons_zero, Option.some.injEq] at h
    obtain ⟨h1, h2⟩ := k2c_some h
    exact Or.inr ⟨by omega, by simp [h1], by omega⟩
  | o :: t, 1, v, j + 1, w, h => by
    simp only [s1, List.getElem?_cons_succ] at h
    rcases s1_get t 0 v j w h with ⟨rfl, rfl⟩ | ⟨h1, h2, h3⟩
    · exact Or.inl ⟨rfl, rfl⟩
    · exact Or.inr ⟨by omega, by simpa using h2, by omega⟩
  | o :: t, n + 2, v, 0, w, h => by
    simp only [s1, List.getElem?_cons_zero] at h
    exact Or.inr ⟨by omega, by simpa using h, by omega⟩
  | o :: t, n + 2, v, j + 1, w, h => by
    simp only [s1, List.getElem?_cons_succ] at h
    rcases s1_get t (n + 1) v j w h with ⟨rfl, rfl⟩ | ⟨h1, h2, h3⟩
    · exact Or.inl ⟨rfl, rfl⟩
    · exact Or.inr ⟨by omega, by simpa using h2, fun q => h3 ⟨by omega, q.2⟩⟩
theorem s2_get : ∀ (pl : List (Option Value)) (i : Nat) (v : Value) (j : Nat) (w : Value), (s2 pl i v)[j]? = some (some w) → (j = i ∧ w = v) ∨ (j ≠ i ∧ j ≠ i + 1 ∧ pl[j]? = some (some w) ∧ ¬ (j + 1 = i ∧ w.category = 2))
  | [], i, v, j, w, h => by simp [s2] at h
  | [o], 0, v, 0, w, h => by simp [s2] at h; exact Or.inl ⟨rfl, h.symm⟩
  | [o], 0, v, j + 1, w, h => by simp [s2] at h
  | o :: o2 :: t, 0, v, 0, w, h => by simp [s2] at h; exact Or.inl ⟨rfl, h.symm⟩
  | o :: o2 :: t, 0, v, 1, w, h => by simp [s2] at h
  | o :: o2 :: t, 0, v, j + 2, w, h => by simp [s2] at h; exact Or.inr ⟨by omega, by omega, by simpa using h, by omega⟩
  | o :: t, 1, v, 0, w, h => by
    simp only [s2, List.getElem?_cons_zero, Option.some.injEq] at h
    obtain ⟨h1, h2⟩ := k2c_some h
    exact Or.inr ⟨by omega, by omega, by simp [h1], by omega⟩
  | o :: t, 1, v, j + 1, w, h => by
    simp only [s2, List.getElem?_cons_succ] at h
    rcases s2_get t 0 v j w h with ⟨rfl, rfl⟩ | ⟨h1, h2, h3, h4⟩
    · exact Or.inl ⟨rfl, rfl⟩
    · exact Or.inr ⟨by omega, by omega, by simpa using h3, by omega⟩
  | o :: t, n + 2, v, 0, w, h => by
    simp only [s2, List.getElem?_cons_zero] at h
    exact Or.inr ⟨by omega, by omega, by simpa using h, by omega⟩
  | o :: t, n + 2, v, j + 1, w, h => by
    simp only [s2, List.getElem?_cons_succ] at h
    rcases s2_get t (n + 1) v j w h with ⟨rfl, rfl⟩ | ⟨h1, h2, h3, h4⟩
    · exact Or.inl ⟨rfl, rfl⟩
    · exact Or.inr ⟨by omega, by omega, by simpa using h3, fun q => h4 ⟨by omega, q.2⟩⟩
theorem lvv_s1 {ls' : Array Slot} {n i : Nat} {pl : List (Option Value)} {v : Value} (hl : pl.length = n) (h : lv_has ls' n ((i, v) :: (en 0 pl).filter (fun q => !(q.1 == i) && !(q.1 + 1 == i && q.2.category == 2)))) : lvv ls' n (s1 pl i v) := by
  refine ⟨(s1_len pl i v).trans hl, h.1, h.2.1, fun j w hj => ?_⟩
  rcases s1_get pl i v j w hj with ⟨rfl, rfl⟩ | ⟨h1, h2, h3⟩
  · exact h.2.2 _ List.mem_cons_self
  · refine h.2.2 (j, w) (List.mem_cons_of_mem _ (List.mem_filter.mpr ⟨(mem_en pl 0 (j, w)).mpr ⟨Nat.zero_le _, by simpa using h2⟩, ?_⟩))
    simp only [Bool.and_eq_true, Bool.not_eq_true', beq_eq_false_iff_ne, Bool.and_eq_false_iff, ne_eq]
    refine ⟨h1, ?_⟩
    by_cases hh : j + 1 = i
    · exact Or.inr (fun q => h3 ⟨hh, q⟩)
    · exact Or.inl hh
theorem lvv_s2 {ls' : Array Slot} {n i : Nat} {pl : List (Option Value)} {v : Value} (hl : pl.length = n) (h : lv_has ls' n ((i, v) :: (en 0 pl).filter (fun q => !(q.1 == i) && (!(q.1 == i + 1) && !(q.1 + 1 == i && q.2.category == 2))))) : lvv ls' n (s2 pl i v) := by
  refine ⟨(s2_len pl i v).trans hl, h.1, h.2.1, fun j w hj => ?_⟩
  rcases s2_get pl i v j w hj with ⟨rfl, rfl⟩ | ⟨h1, h0, h2, h3⟩
  · exact h.2.2 _ List.mem_cons_self
  · refine h.2.2 (j, w) (List.mem_cons_of_mem _ (List.mem_filter.mpr ⟨(mem_en pl 0 (j, w)).mpr ⟨Nat.zero_le _, by simpa using h2⟩, ?_⟩))
    simp only [Bool.and_eq_true, Bool.not_eq_true', beq_eq_false_iff_ne, Bool.and_eq_false_iff, ne_eq]
    refine ⟨h1, h0, ?_⟩
    by_cases hh : j + 1 = i
    · exact Or.inr (fun q => h3 ⟨hh, q⟩)
    · exact Or.inl hh
theorem lvv_weak {ls : Array Slot} {n : Nat} {pl pl' : List (Option Value)} (h : lvv ls n pl) (hl : pl'.length = pl.length) (hw : ∀ (i : Nat) (v : Value), pl'[i]? = some (some v) → pl[i]? = some (some v)) : lvv ls n pl' :=
  ⟨hl.trans h.1, h.2.1, h.2.2.1, fun i v hi => h.2.2.2 i v (hw i v hi)⟩
def pR (I : MI) (mc ms : Nat) : Room := { frames := I.2.2.2.2.1, cells := mc, slots := ms, locals := I.2.2.2.2.2.1 }
/-- what stands around a method's body -/
def pX (I : MI) (mc ms : Nat) (E : pT) (p : Program) (R : Room) (s : State) (m : MethodId) (args : Array Value) (meth : Method) (c : Code) : Prop :=
  p.tables.exec = Jvm.exec ∧ c.code = I.1 ∧ c.maxLocals = I.2.1 ∧ s.vm.findClass I.2.2.2.1 = some m.cls ∧ (∀ w ∈ TBL, w.before args s = true) ∧ meth.locks = false ∧ meth.sig.returnType = I.2.2.1 ∧ (I.2.2.2.2.2.2 = true → meth.name = "<init>") ∧ R = pR I mc ms ∧ pK E s
def pW (E : pT) (A : Nat → Prop) (s : State) (M : pM) (z : Nat) (H : Heap) (locs : List Loc) : Prop :=
  pH E M H ∧ H.size = z ∧ va_S A s.heap H locs ∧ (∀ (q : Nat) (e : pE), M q = some e → A q) ∧ ∀ q : Nat, s.heap.size ≤ q → A q
def pQ (E : pT) (A : Nat → Prop) (Q : pM → Nat → Option Value → Prop) : Array Value → State → Outcome → State → Prop := fun _ st o t =>
  (∃ (r : Option Value) (M' : pM), o = .returned r ∧ Q M' t.heap.size r ∧ pH E M' t.heap ∧ ∀ (q : Nat) (e : pE), M' q = some e → A q) ∧ va_F A st t
def G (I : MI) (mc ms : Nat) (Q : pM → Nat → Option Value → Prop) (k n pc : Nat) (pl : List (Option Value)) (st : List Value) (M : pM) (z : Nat) : Prop :=
  ∀ (E : pT) (p : Program) (l : Launch) (e : Env) (R : Room) (s : State) (m : MethodId) (args : Array Value) (below : List Frame) (meth : Method) (c : Code) (A : Nat → Prop) (H : Heap) (locs : List Loc) (ls : Array Slot),
    pX I mc ms E p R s m args meth c → pW E A s M z H locs → lvv ls I.2.1 pl → W p l e R s m args below meth c H locs k n (MQ below (pQ E A Q) args s mc ms A) (F0 m pc ls st)
def AA (M : pM) (z : Nat) : Nat → Prop := fun q => (∃ e, M q = some e) ∨ z ≤ q
/-- a method's contract: from the memory M (the heap's size z) with these arguments it returns, and Q holds of the memory, the heap's size and the answer then -/
def C (I : MI) (y : MethodName) (args : List Value) (M : pM) (z mc ms : Nat) (Q : pM → Nat → Option Value → Prop) : Prop :=
  ∀ (l : Launch) (E : pT), Met l y (Cond.code y I.1 I.2.1 I.2.2.1 :: TBL) (pR I mc ms) (va_Pc args (fun U => U.heap.size = z ∧ pH E M U.heap ∧ pK E U)) (pQ E (AA M z) Q) mc ms (AA M z)
theorem C.mono {I : MI} {y : MethodName} {args : List Value} {M : pM} {z mc ms : Nat} {Q Q' : pM → Nat → Option Value → Prop} (h : C I y args M z mc ms Q) (hQ : ∀ M' z' r, Q M' z' r → Q' M' z' r) : C I y args M z mc ms Q' := by
  intro l E
  refine MetFree.mono (h l E) (fun _ _ h => h) (fun _ _ _ _ _ h => h) (fun a s o t _ hq => ⟨?_, hq.2⟩)
  obtain ⟨⟨r, M', h1, h2, h3⟩, h4⟩ := hq.1
  exact ⟨⟨r, M', h1, hQ _ _ _ h2, h3⟩, h4⟩
def pU (M : pM) (a : Nat) (e : pE) : pM := fun x => if x = a then some e else M x
theorem pU_same {M : pM} {a : Nat} {e : pE} : pU M a e a = some e := by simp [pU]
theorem pU_ne {M : pM} {a x : Nat} {e : pE} (h : x ≠ a) : pU M a e x = M x := by simp [pU, h]
theorem pH.lt {E : pT} {M : pM} {H : Heap} (h : pH E M H) {a : Nat} {e : pE} (ha : M a = some e) : a < H.size := va_at.lt (h a e ha)
theorem pW.put {E : pT} {A : Nat → Prop} {s : State} {M : pM} {z : Nat} {H H' : Heap} {locs : List Loc} (h : pW E A s M z H locs) {a i : Nat} {e0 e : pE} (ha : M a = some e0) (he : va_at E.1 classes (a, pCv E e) H') (hz : H'.size = H.size) (oq : ∀ q : Nat, q ≠ a → H'[q]? = H[q]?) : pW E A s (pU M a e) z H' (locs ++ [⟨a, i⟩]) := by
  obtain ⟨h1, h2, h3, h4, h5⟩ := h
  refine ⟨fun x ex hx => ?_, by rw [hz, h2], h3.put hz oq (h4 a e0 ha), fun q eq hq => ?_, h5⟩
  · unfold pU at hx
    split at hx
    · next hxa => subst hxa; cases hx; exact he
    · next hxa => exact (h1 x ex hx).kept (oq x hxa)
  · unfold pU at hq
    split at hq
    · next hxa => rw [hxa]; exact h4 a e0 ha
    · exact h4 q eq hq
theorem pW.new {E : pT} {A : Nat → Prop} {s : State} {M : pM} {z : Nat} {H H' : Heap} {locs : List Loc} (h : pW E A s M z H locs) {e : pE} (he : va_at E.1 classes (z, pCv E e) H') (hz : H'.size = z + 1) (oq : ∀ q : Nat, q < z → H'[q]? = H[q]?) : pW E A s (pU M z e) (z + 1) H' locs := by
  obtain ⟨h1, h2, h3, h4, h5⟩ := h
  have hle : s.heap.size ≤ z := by rw [← h2]; exact h3.1
  refine ⟨fun x ex hx => ?_, hz, ⟨by omega, fun q g1 g2 => ?_, h3.2.2⟩, fun q eq hq => ?_, h5⟩
  · unfold pU at hx
    split at hx
    · next hxa => subst hxa; cases hx; exact he
    · next hxa => exact (h1 x ex hx).kept (oq x (by rw [← h2]; exact h1.lt hx))
  · rw [oq q (by omega)]; exact h3.2.1 q g1 g2
  · unfold pU at hq
    split at hq
    · next hxa => rw [hxa]; exact h5 z hle
    · exact h4 q eq hq
/-- an address of the memory lies below the heap's size -/
theorem G.lt {I : MI} {mc ms : Nat} {Q : pM → Nat → Option Value → Prop} {k n pc : Nat} {pl : List (Option Value)} {st : List Value} {M : pM} {z a : Nat} {e : pE} (ha : M a = some e) (K : a < z → G I mc ms Q k n pc pl st M z) : G I mc ms Q k n pc pl st M z := by
  intro E p l e R s m args below meth c A H locs ls X Wd L
  exact K (by rw [← Wd.2.1]; exact Wd.1.lt ha) E p l e R s m args below meth c A H locs ls X Wd L
/-- the memory may be another that says the same -/
theorem G.eqM {I : MI} {mc ms : Nat} {Q : pM → Nat → Option Value → Prop} {k n pc : Nat} {pl : List (Option Value)} {st : List Value} {M M' : pM} {z : Nat} (h : M = M') (K : G I mc ms Q k n pc pl st M' z) : G I mc ms Q k n pc pl st M z := by subst h; exact K
/-- fewer locals are known -/
theorem G.weak {I : MI} {mc ms : Nat} {Q : pM → Nat → Option Value → Prop} {k n pc : Nat} {pl pl' : List (Option Value)} {st : List Value} {M : pM} {z : Nat} (hl : pl'.length = pl.length) (hw : ∀ (i : Nat) (v : Value), pl'[i]? = some (some v) → pl[i]? = some (some v)) (K : G I mc ms Q k n pc pl' st M z) : G I mc ms Q k n pc pl st M z := by
  intro E p l e R s m args below meth c A H locs ls X Wd L
  exact K E p l e R s m args below meth c A H locs ls X Wd (lvv_weak L hl hw)
theorem C.intro {I : MI} {y : MethodName} {args : List Value} {pl : List (Option Value)} {M : pM} {z mc ms : Nat} {Q : pM → Nat → Option Value → Prop} (hn : plainName y.cls = true) (hc : I.2.2.2.1 = y.cls) (hi : I.2.2.2.2.2.2 = true → y.name = "<init>") (hl : pl.length = I.2.1) (hls : (lg_sl args).length ≤ I.2.1) (he : en 0 pl = lv_args 0 args) (K : G I mc ms Q 0 0 0 pl [] M z) : C I y args M z mc ms Q := by
  intro l E
  refine Met.ofW (cc := I.1) (maxL := I.2.1) (ret := I.2.2.1) hn rfl ?_
  intro p e s m args' below meth c s₁ B hml hv
  obtain ⟨rfl, hz, hH, hK⟩ := hv
  have hts := atoms_spec (ws := Cond.code y I.1 I.2.1 I.2.2.1 :: TBL) B.pre
  have hin : meth.name = y.name := (name_of_methodNamed B.named B.method).1
  rw [lg_entry_eq]
  have h0 := lv_entry args hls
  refine K E p l e _ s m _ below meth c (AA M z) s.heap [] _ ⟨B.exec, B.bytes, hml, by rw [hc]; exact findClass_of_methodNamed B.named, fun w hw => hts w (List.mem_cons_of_mem _ hw), B.notSynchronized, B.returns, fun h => hin.trans (hi h), rfl, hK⟩ ⟨hH, hz, va_S.rf, fun q e h => Or.inl ⟨e, h⟩, fun q h => Or.inr (by rw [← hz]; exact h)⟩ ⟨hl, h0.1, h0.2.1, fun i v hiv => h0.2.2 (i, v) ?_⟩
  rw [← he]
  exact (mem_en pl 0 (i, v)).mpr ⟨Nat.zero_le _, by simpa using hiv⟩
section GR
variable {I : MI} {mc ms : Nat} {Q : pM → Nat → Option Value → Prop} {k n pc : Nat} {pl : List (Option Value)} {st : List Value} {M : pM} {z : Nat}
theorem g_iconst {c0 : Int} {v : Int32} (hd : decode I.1 pc = .ok (.iconst c0, 1)) (hv : Int32.ofInt c0 = v) (K : G I mc ms Q k n (pc + 1) pl (.int v :: st) M z) : G I mc ms Q k n pc pl (st) M z := by
  intro E p l e R s m args below meth c A H locs ls X Wd L
  exact lv_iconst X.1 X.2.1 hd hv (K E p l e R s m args below meth c A H locs ls X Wd L)
theorem g_bipush {c0 : Int} {v : Int32} (hd : decode I.1 pc = .ok (.bipush c0, 2)) (hv : (Int8.ofInt c0).toInt32 = v) (K : G I mc ms Q k n (pc + 2) pl (.int v :: st) M z) : G I mc ms Q k n pc pl (st) M z := by
  intro E p l e R s m args below meth c A H locs ls X Wd L
  exact lv_bipush X.1 X.2.1 hd hv (K E p l e R s m args below meth c A H locs ls X Wd L)
theorem g_sipush {c0 : Int} {v : Int32} (hd : decode I.1 pc = .ok (.sipush c0, 3)) (hv : (Int16.ofInt c0).toInt32 = v) (K : G I mc ms Q k n (pc + 3) pl (.int v :: st) M z) : G I mc ms Q k n pc pl (st) M z := by
  intro E p l e R s m args below meth c A H locs ls X Wd L
  exact lv_sipush X.1 X.2.1 hd hv (K E p l e R s m args below meth c A H locs ls X Wd L)
theorem g_lconst {c0 : Fin 2} {v : Int64} (hd : decode I.1 pc = .ok (.lconst c0, 1)) (hv : Int64.ofNat (c0 : Nat) = v) (K : G I mc ms Q k n (pc + 1) pl (.long v :: st) M z) : G I mc ms Q k n pc pl (st) M z := by
  intro E p l e R s m args below meth c A H locs ls X Wd L
  exact lv_lconst X.1 X.2.1 hd hv (K E p l e R s m args below meth c A H locs ls X Wd L)
theorem g_iload_n {c0 : Fin 4} {x : Int32} (hd : decode I.1 pc = .ok (.iload_n c0, 1)) (hl : pl[(c0 : Nat)]? = some (some (.int x))) (K : G I mc ms Q k n (pc + 1) pl (.int x :: st) M z) : G I mc ms Q k n pc pl (st) M z := by
  intro E p l e R s m args below meth c A H locs ls X Wd L
  exact lv_iload_n X.1 X.2.1 hd rfl (L.2.2.2 _ _ hl) (K E p l e R s m args below meth c A H locs ls X Wd L)
theorem g_iload {i : Nat} {x : Int32} (hd : decode I.1 pc = .ok (.iload i, 2)) (hl : pl[i]? = some (some (.int x))) (K : G I mc ms Q k n (pc + 2) pl (.int x :: st) M z) : G I mc ms Q k n pc pl (st) M z := by
  intro E p l e R s m args below meth c A H locs ls X Wd L
  exact lv_iload X.1 X.2.1 hd (L.2.2.2 _ _ hl) (K E p l e R s m args below meth c A H locs ls X Wd L)
theorem g_lload_n {c0 : Fin 4} {x : Int64} (hd : decode I.1 pc = .ok (.lload_n c0, 1)) (hl : pl[(c0 : Nat)]? = some (some (.long x))) (K : G I mc ms Q k n (pc + 1) pl (.long x :: st) M z) : G I mc ms Q k n pc pl (st) M z := by
  intro E p l e R s m args below meth c A H locs ls X Wd L
  exact lv_lload_n X.1 X.2.1 hd rfl (L.2.2.2 _ _ hl) (K E p l e R s m args below meth c A H locs ls X Wd L)
theorem g_lload {i : Nat} {x : Int64} (hd : decode I.1 pc = .ok (.lload i, 2)) (hl : pl[i]? = some (some (.long x))) (K : G I mc ms Q k n (pc + 2) pl (.long x :: st) M z) : G I mc ms Q k n pc pl (st) M z := by
  intro E p l e R s m args below meth c A H locs ls X Wd L
  exact lv_lload X.1 X.2.1 hd (L.2.2.2 _ _ hl) (K E p l e R s m args below meth c A H locs ls X Wd L)
theorem g_aload_n {c0 : Fin 4} {x : Nat} (hd : decode I.1 pc = .ok (.aload_n c0, 1)) (hl : pl[(c0 : Nat)]? = some (some (.ref x))) (K : G I mc ms Q k n (pc + 1) pl (.ref x :: st) M z) : G I mc ms Q k n pc pl (st) M z := by
  intro E p l e R s m args below meth c A H locs ls X Wd L
  exact lv_aload_n X.1 X.2.1 hd rfl (L.2.2.2 _ _ hl) (K E p l e R s m args below meth c A H locs ls X Wd L)
theorem g_aload {i : Nat} {x : Nat} (hd : decode I.1 pc = .ok (.aload i, 2)) (hl : pl[i]? = some (some (.ref x))) (K : G I mc ms Q k n (pc + 2) pl (.ref x :: st) M z) : G I mc ms Q k n pc pl (st) M z := by
  intro E p l e R s m args below meth c A H locs ls X Wd L
  exact lv_aload X.1 X.2.1 hd (L.2.2.2 _ _ hl) (K E p l e R s m args below meth c A H locs ls X Wd L)
theorem g_istore_n {c0 : Fin 4} {i : Nat} {x : Int32} (hd : decode I.1 pc = .ok (.istore_n c0, 1)) (hi : (c0 : Nat) = i) (hn : i < I.2.1) (K : G I mc ms Q k n (pc + 1) (s1 pl i (.int x)) st M z) : G I mc ms Q k n pc pl (.int x :: st) M z := by
  intro E p l e R s m args below meth c A H locs ls X Wd L
  exact lv_istore_n X.1 X.2.1 hd hi (lvv_en L) hn rfl (fun ls' h' => K E p l e R s m args below meth c A H locs ls' X Wd (lvv_s1 L.1 h'))
theorem g_istore {i : Nat} {x : Int32} (hd : decode I.1 pc = .ok (.istore i, 2)) (hn : i < I.2.1) (K : G I mc ms Q k n (pc + 2) (s1 pl i (.int x)) st M z) : G I mc ms Q k n pc pl (.int x :: st) M z := by
  intro E p l e R s m args below meth c A H locs ls X Wd L
  exact lv_istore X.1 X.2.1 hd (lvv_en L) hn rfl (fun ls' h' => K E p l e R s m args below meth c A H locs ls' X Wd (lvv_s1 L.1 h'))
theorem g_astore_n {c0 : Fin 4} {i : Nat} {x : Nat} (hd : decode I.1 pc = .ok (.astore_n c0, 1)) (hi : (c0 : Nat) = i) (hn : i < I.2.1) (K : G I mc ms Q k n (pc + 1) (s1 pl i (.ref x)) st M z) : G I mc ms Q k n pc pl (.ref x :: st) M z := by
  intro E p l e R s m args below meth c A H locs ls X Wd L
  exact lv_astore_n X.1 X.2.1 hd hi (lvv_en L) hn rfl (fun ls' h' => K E p l e R s m args below meth c A H locs ls' X Wd (lvv_s1 L.1 h'))
theorem g_astore {i : Nat} {x : Nat} (hd : decode I.1 pc = .ok (.astore i, 2)) (hn : i < I.2.1) (K : G I mc ms Q k n (pc + 2) (s1 pl i (.ref x)) st M z) : G I mc ms Q k n pc pl (.ref x :: st) M z := by
  intro E p l e R s m args below meth c A H locs ls X Wd L
  exact lv_astore X.1 X.2.1 hd (lvv_en L) hn rfl (fun ls' h' => K E p l e R s m args below meth c A H locs ls' X Wd (lvv_s1 L.1 h'))
theorem g_lstore_n {c0 : Fin 4} {i : Nat} {x : Int64} (hd : decode I.1 pc = .ok (.lstore_n c0, 1)) (hi : (c0 : Nat) = i) (hn : i + 1 < I.2.1) (K : G I mc ms Q k n (pc + 1) (s2 pl i (.long x)) st M z) : G I mc ms Q k n pc pl (.long x :: st) M z := by
  intro E p l e R s m args below meth c A H locs ls X Wd L
  exact lv_lstore_n X.1 X.2.1 hd hi (lvv_en L) hn rfl (fun ls' h' => K E p l e R s m args below meth c A H locs ls' X Wd (lvv_s2 L.1 h'))
theorem g_lstore {i : Nat} {x : Int64} (hd : decode I.1 pc = .ok (.lstore i, 2)) (hn : i + 1 < I.2.1) (K : G I mc ms Q k n (pc + 2) (s2 pl i (.long x)) st M z) : G I mc ms Q k n pc pl (.long x :: st) M z := by
  intro E p l e R s m args below meth c A H locs ls X Wd L
  exact lv_lstore X.1 X.2.1 hd (lvv_en L) hn rfl (fun ls' h' => K E p l e R s m args below meth c A H locs ls' X Wd (lvv_s2 L.1 h'))
theorem g_iinc {i : Nat} {c0 : Int} {x v : Int32} (hd : decode I.1 pc = .ok (.iinc i c0, 3)) (hl : pl[i]? = some (some (.int x))) (hv : x + Int32.ofInt c0 = v) (hn : i < I.2.1) (K : G I mc ms Q k n (pc + 3) (s1 pl i (.int v)) st M z) : G I mc ms Q k n pc pl st M z := by
  intro E p l e R s m args below meth c A H locs ls X Wd L
  have hm : (i, Value.int x) ∈ en 0 pl := (mem_en pl 0 _).mpr ⟨Nat.zero_le _, by simpa using hl⟩
  obtain ⟨j, hj⟩ := List.getElem?_of_mem hm
  exact lv_iinc X.1 X.2.1 hd (lvv_en L) hj hv hn rfl (fun ls' h' => K E p l e R s m args below meth c A H locs ls' X Wd (lvv_s1 L.1 h'))
theorem g_iadd {x y : Int32} (hd : decode I.1 pc = .ok (.iadd, 1))  (K : G I mc ms Q k n (pc + 1) pl (.int (x + y) :: st) M z) : G I mc ms Q k n pc pl (.int y :: .int x :: st) M z := by
  intro E p l e R s m args below meth c A H locs ls X Wd L
  exact lv_iadd X.1 X.2.1 hd  (K E p l e R s m args below meth c A H locs ls X Wd L)
theorem g_isub {x y : Int32} (hd : decode I.1 pc = .ok (.isub, 1))  (K : G I mc ms Q k n (pc + 1) pl (.int (x - y) :: st) M z) : G I mc ms Q k n pc pl (.int y :: .int x :: st) M z := by
  intro E p l e R s m args below meth c A H locs ls X Wd L
  exact lv_isub X.1 X.2.1 hd  (K E p l e R s m args below meth c A H locs ls X Wd L)
theorem g_imul {x y : Int32} (hd : decode I.1 pc = .ok (.imul, 1))  (K : G I mc ms Q k n (pc + 1) pl (.int (x * y) :: st) M z) : G I mc ms Q k n pc pl (.int y :: .int x :: st) M z := by
  intro E p l e R s m args below meth c A H locs ls X Wd L
  exact lv_imul X.1 X.2.1 hd  (K E p l e R s m args below meth c A H locs ls X Wd L)
theorem g_iand {x y : Int32} (hd : decode I.1 pc = .ok (.iand, 1))  (K : G I mc ms Q k n (pc + 1) pl (.int (x &&& y) :: st) M z) : G I mc ms Q k n pc pl (.int y :: .int x :: st) M z := by
  intro E p l e R s m args below meth c A H locs ls X Wd L
  exact lv_iand X.1 X.2.1 hd  (K E p l e R s m args below meth c A H locs ls X Wd L)
theorem g_ixor {x y : Int32} (hd : decode I.1 pc = .ok (.ixor, 1))  (K : G I mc ms Q k n (pc + 1) pl (.int (x ^^^ y) :: st) M z) : G I mc ms Q k n pc pl (.int y :: .int x :: st) M z := by
  intro E p l e R s m args below meth c A H locs ls X Wd L
  exact lv_ixor X.1 X.2.1 hd  (K E p l e R s m args below meth c A H locs ls X Wd L)
theorem g_ishl {x y : Int32} (hd : decode I.1 pc = .ok (.ishl, 1))  (K : G I mc ms Q k n (pc + 1) pl (.int (x <<< (y &&& 31)) :: st) M z) : G I mc ms Q k n pc pl (.int y :: .int x :: st) M z := by
  intro E p l e R s m args below meth c A H locs ls X Wd L
  exact lv_ishl X.1 X.2.1 hd  (K E p l e R s m args below meth c A H locs ls X Wd L)
theorem g_ishr {x y : Int32} (hd : decode I.1 pc = .ok (.ishr, 1))  (K : G I mc ms Q k n (pc + 1) pl (.int (x >>> (y &&& 31)) :: st) M z) : G I mc ms Q k n pc pl (.int y :: .int x :: st) M z := by
  intro E p l e R s m args below meth c A H locs ls X Wd L
  exact lv_ishr X.1 X.2.1 hd  (K E p l e R s m args below meth c A H locs ls X Wd L)
theorem g_idiv {x y : Int32} (hd : decode I.1 pc = .ok (.idiv, 1)) (hne : ¬ y = 0) (K : G I mc ms Q k n (pc + 1) pl (.int (x / y) :: st) M z) : G I mc ms Q k n pc pl (.int y :: .int x :: st) M z := by
  intro E p l e R s m args below meth c A H locs ls X Wd L
  exact lv_idiv X.1 X.2.1 hd hne (K E p l e R s m args below meth c A H locs ls X Wd L)
theorem g_irem {x y : Int32} (hd : decode I.1 pc = .ok (.irem, 1)) (hne : ¬ y = 0) (K : G I mc ms Q k n (pc + 1) pl (.int (x - x / y * y) :: st) M z) : G I mc ms Q k n pc pl (.int y :: .int x :: st) M z := by
  intro E p l e R s m args below meth c A H locs ls X Wd L
  exact lv_irem X.1 X.2.1 hd hne (K E p l e R s m args below meth c A H locs ls X Wd L)
theorem g_ladd {x y : Int64} (hd : decode I.1 pc = .ok (.ladd, 1))  (K : G I mc ms Q k n (pc + 1) pl (.long (x + y) :: st) M z) : G I mc ms Q k n pc pl (.long y :: .long x :: st) M z := by
  intro E p l e R s m args below meth c A H locs ls X Wd L
  exact lv_ladd X.1 X.2.1 hd  (K E p l e R s m args below meth c A H locs ls X Wd L)
theorem g_lsub {x y : Int64} (hd : decode I.1 pc = .ok (.lsub, 1))  (K : G I mc ms Q k n (pc + 1) pl (.long (x - y) :: st) M z) : G I mc ms Q k n pc pl (.long y :: .long x :: st) M z := by
  intro E p l e R s m args below meth c A H locs ls X Wd L
  exact lv_lsub X.1 X.2.1 hd  (K E p l e R s m args below meth c A H locs ls X Wd L)
theorem g_lmul {x y : Int64} (hd : decode I.1 pc = .ok (.lmul, 1))  (K : G I mc ms Q k n (pc + 1) pl (.long (x * y) :: st) M z) : G I mc ms Q k n pc pl (.long y :: .long x :: st) M z := by
  intro E p l e R s m args below meth c A H locs ls X Wd L
  exact lv_lmul X.1 X.2.1 hd  (K E p l e R s m args below meth c A H locs ls X Wd L)
theorem g_land {x y : Int64} (hd : decode I.1 pc = .ok (.land, 1))  (K : G I mc ms Q k n (pc + 1) pl (.long (x &&& y) :: st) M z) : G I mc ms Q k n pc pl (.long y :: .long x :: st) M z := by
  intro E p l e R s m args below meth c A H locs ls X Wd L
  exact lv_land X.1 X.2.1 hd  (K E p l e R s m args below meth c A H locs ls X Wd L)
theorem g_ldiv {x y : Int64} (hd : decode I.1 pc = .ok (.ldiv, 1)) (hne : ¬ y = 0) (K : G I mc ms Q k n (pc + 1) pl (.long (x / y) :: st) M z) : G I mc ms Q k n pc pl (.long y :: .long x :: st) M z := by
  intro E p l e R s m args below meth c A H locs ls X Wd L
  exact lv_ldiv X.1 X.2.1 hd hne (K E p l e R s m args below meth c A H locs ls X Wd L)
theorem g_lrem {x y : Int64} (hd : decode I.1 pc = .ok (.lrem, 1)) (hne : ¬ y = 0) (K : G I mc ms Q k n (pc + 1) pl (.long (x - x / y * y) :: st) M z) : G I mc ms Q k n pc pl (.long y :: .long x :: st) M z := by
  intro E p l e R s m args below meth c A H locs ls X Wd L
  exact lv_lrem X.1 X.2.1 hd hne (K E p l e R s m args below meth c A H locs ls X Wd L)
theorem g_lneg {x : Int64} (hd : decode I.1 pc = .ok (.lneg, 1))  (K : G I mc ms Q k n (pc + 1) pl (.long (-x) :: st) M z) : G I mc ms Q k n pc pl (.long x :: st) M z := by
  intro E p l e R s m args below meth c A H locs ls X Wd L
  exact lv_lneg X.1 X.2.1 hd  (K E p l e R s m args below meth c A H locs ls X Wd L)
theorem g_lshl {x : Int64} {y : Int32} (hd : decode I.1 pc = .ok (.lshl, 1))  (K : G I mc ms Q k n (pc + 1) pl (.long (x <<< (y.toInt64 &&& 63)) :: st) M z) : G I mc ms Q k n pc pl (.int y :: .long x :: st) M z := by
  intro E p l e R s m args below meth c A H locs ls X Wd L
  exact lv_lshl X.1 X.2.1 hd rfl (K E p l e R s m args below meth c A H locs ls X Wd L)
theorem g_lshr {x : Int64} {y : Int32} (hd : decode I.1 pc = .ok (.lshr, 1))  (K : G I mc ms Q k n (pc + 1) pl (.long (x >>> (y.toInt64 &&& 63)) :: st) M z) : G I mc ms Q k n pc pl (.int y :: .long x :: st) M z := by
  intro E p l e R s m args below meth c A H locs ls X Wd L
  exact lv_lshr X.1 X.2.1 hd rfl (K E p l e R s m args below meth c A H locs ls X Wd L)
theorem g_i2l {x : Int32} (hd : decode I.1 pc = .ok (.i2l, 1))  (K : G I mc ms Q k n (pc + 1) pl (.long x.toInt64 :: st) M z) : G I mc ms Q k n pc pl (.int x :: st) M z := by
  intro E p l e R s m args below meth c A H locs ls X Wd L
  exact lv_i2l X.1 X.2.1 hd rfl (K E p l e R s m args below meth c A H locs ls X Wd L)
theorem g_l2i {x : Int64} (hd : decode I.1 pc = .ok (.l2i, 1))  (K : G I mc ms Q k n (pc + 1) pl (.int x.toInt32 :: st) M z) : G I mc ms Q k n pc pl (.long x :: st) M z := by
  intro E p l e R s m args below meth c A H locs ls X Wd L
  exact lv_l2i X.1 X.2.1 hd rfl (K E p l e R s m args below meth c A H locs ls X Wd L)
theorem g_lcmp {x y : Int64} (hd : decode I.1 pc = .ok (.lcmp, 1))  (K : G I mc ms Q k n (pc + 1) pl (.int (lg_cmp x y) :: st) M z) : G I mc ms Q k n pc pl (.long y :: .long x :: st) M z := by
  intro E p l e R s m args below meth c A H locs ls X Wd L
  exact W.lcmp X.1 X.2.1 hd  (K E p l e R s m args below meth c A H locs ls X Wd L)
theorem g_dup {va : Value} (hd : decode I.1 pc = .ok (.dup, 1)) (hva : va.category = 1) (K : G I mc ms Q k n (pc + 1) pl (va :: va :: st) M z) : G I mc ms Q k n pc pl (va :: st) M z := by
  intro E p l e R s m args below meth c A H locs ls X Wd L
  exact lv_dup X.1 X.2.1 hd hva (K E p l e R s m args below meth c A H locs ls X Wd L)
theorem g_dup2 {va vb : Value} (hd : decode I.1 pc = .ok (.dup2, 1)) (hva : va.category = 1) (hvb : vb.category = 1) (K : G I mc ms Q k n (pc + 1) pl (va :: vb :: va :: vb :: st) M z) : G I mc ms Q k n pc pl (va :: vb :: st) M z := by
  intro E p l e R s m args below meth c A H locs ls X Wd L
  exact lv_dup2_11 X.1 X.2.1 hd hva hvb (K E p l e R s m args below meth c A H locs ls X Wd L)
theorem g_if_eq {x : Int32} {off : Int} {tgt : Nat} (hd : decode I.1 pc = .ok (.ifCond .eq off, 3)) (ht : (pc : Int) + off = (tgt : Int)) (kt : x = 0 → G I mc ms Q k n tgt pl st M z) (kf : ¬ x = 0 → G I mc ms Q k n (pc + 3) pl st M z) : G I mc ms Q k n pc pl (.int x :: st) M z := by
  intro E p l e R s m args below meth c A H locs ls X Wd L
  exact lv_if_eq X.1 X.2.1 hd ht (fun h => kt h E p l e R s m args below meth c A H locs ls X Wd L) (fun h => kf h E p l e R s m args below meth c A H locs ls X Wd L)
theorem g_if_ne {x : Int32} {off : Int} {tgt : Nat} (hd : decode I.1 pc = .ok (.ifCond .ne off, 3)) (ht : (pc : Int) + off = (tgt : Int)) (kt : ¬ x = 0 → G I mc ms Q k n tgt pl st M z) (kf : x = 0 → G I mc ms Q k n (pc + 3) pl st M z) : G I mc ms Q k n pc pl (.int x :: st) M z := by
  intro E p l e R s m args below meth c A H locs ls X Wd L
  exact lv_if_ne X.1 X.2.1 hd ht (fun h => kt h E p l e R s m args below meth c A H locs ls X Wd L) (fun h => kf h E p l e R s m args below meth c A H locs ls X Wd L)
theorem g_if_lt {x : Int32} {off : Int} {tgt : Nat} (hd : decode I.1 pc = .ok (.ifCond .lt off, 3)) (ht : (pc : Int) + off = (tgt : Int)) (kt : x < 0 → G I mc ms Q k n tgt pl st M z) (kf : ¬ x < 0 → G I mc ms Q k n (pc + 3) pl st M z) : G I mc ms Q k n pc pl (.int x :: st) M z := by
  intro E p l e R s m args below meth c A H locs ls X Wd L
  exact lv_if_lt X.1 X.2.1 hd ht (fun h => kt h E p l e R s m args below meth c A H locs ls X Wd L) (fun h => kf h E p l e R s m args below meth c A H locs ls X Wd L)
theorem g_if_ge {x : Int32} {off : Int} {tgt : Nat} (hd : decode I.1 pc = .ok (.ifCond .ge off, 3)) (ht : (pc : Int) + off = (tgt : Int)) (kt : 0 ≤ x → G I mc ms Q k n tgt pl st M z) (kf : ¬ 0 ≤ x → G I mc ms Q k n (pc + 3) pl st M z) : G I mc ms Q k n pc pl (.int x :: st) M z := by
  intro E p l e R s m args below meth c A H locs ls X Wd L
  exact lv_if_ge X.1 X.2.1 hd ht (fun h => kt h E p l e R s m args below meth c A H locs ls X Wd L) (fun h => kf h E p l e R s m args below meth c A H locs ls X Wd L)
theorem g_if_gt {x : Int32} {off : Int} {tgt : Nat} (hd : decode I.1 pc = .ok (.ifCond .gt off, 3)) (ht : (pc : Int) + off = (tgt : Int)) (kt : 0 < x → G I mc ms Q k n tgt pl st M z) (kf : ¬ 0 < x → G I mc ms Q k n (pc + 3) pl st M z) : G I mc ms Q k n pc pl (.int x :: st) M z := by
  intro E p l e R s m args below meth c A H locs ls X Wd L
  exact lv_if_gt X.1 X.2.1 hd ht (fun h => kt h E p l e R s m args below meth c A H locs ls X Wd L) (fun h => kf h E p l e R s m args below meth c A H locs ls X Wd L)
theorem g_if_le {x : Int32} {off : Int} {tgt : Nat} (hd : decode I.1 pc = .ok (.ifCond .le off, 3)) (ht : (pc : Int) + off = (tgt : Int)) (kt : x ≤ 0 → G I mc ms Q k n tgt pl st M z) (kf : ¬ x ≤ 0 → G I mc ms Q k n (pc + 3) pl st M z) : G I mc ms Q k n pc pl (.int x :: st) M z := by
  intro E p l e R s m args below meth c A H locs ls X Wd L
  exact lv_if_le X.1 X.2.1 hd ht (fun h => kt h E p l e R s m args below meth c A H locs ls X Wd L) (fun h => kf h E p l e R s m args below meth c A H locs ls X Wd L)
theorem g_icmp_eq {x y : Int32} {off : Int} {tgt : Nat} (hd : decode I.1 pc = .ok (.if_icmp .eq off, 3)) (ht : (pc : Int) + off = (tgt : Int)) (kt : x = y → G I mc ms Q k n tgt pl st M z) (kf : ¬ x = y → G I mc ms Q k n (pc + 3) pl st M z) : G I mc ms Q k n pc pl (.int y :: .int x :: st) M z := by
  intro E p l e R s m args below meth c A H locs ls X Wd L
  exact lv_icmp_eq X.1 X.2.1 hd ht (fun h => kt h E p l e R s m args below meth c A H locs ls X Wd L) (fun h => kf h E p l e R s m args below meth c A H locs ls X Wd L)
theorem g_icmp_ne {x y : Int32} {off : Int} {tgt : Nat} (hd : decode I.1 pc = .ok (.if_icmp .ne off, 3)) (ht : (pc : Int) + off = (tgt : Int)) (kt : ¬ x = y → G I mc ms Q k n tgt pl st M z) (kf : x = y → G I mc ms Q k n (pc + 3) pl st M z) : G I mc ms Q k n pc pl (.int y :: .int x :: st) M z := by
  intro E p l e R s m args below meth c A H locs ls X Wd L
  exact lv_icmp_ne X.1 X.2.1 hd ht (fun h => kt h E p l e R s m args below meth c A H locs ls X Wd L) (fun h => kf h E p l e R s m args below meth c A H locs ls X Wd L)
theorem g_icmp_lt {x y : Int32} {off : Int} {tgt : Nat} (hd : decode I.1 pc = .ok (.if_icmp .lt off, 3)) (ht : (pc : Int) + off = (tgt : Int)) (kt : x < y → G I mc ms Q k n tgt pl st M z) (kf : ¬ x < y → G I mc ms Q k n (pc + 3) pl st M z) : G I mc ms Q k n pc pl (.int y :: .int x :: st) M z := by
  intro E p l e R s m args below meth c A H locs ls X Wd L
  exact lv_icmp_lt X.1 X.2.1 hd ht (fun h => kt h E p l e R s m args below meth c A H locs ls X Wd L) (fun h => kf h E p l e R s m args below meth c A H locs ls X Wd L)
theorem g_icmp_ge {x y : Int32} {off : Int} {tgt : Nat} (hd : decode I.1 pc = .ok (.if_icmp .ge off, 3)) (ht : (pc : Int) + off = (tgt : Int)) (kt : y ≤ x → G I mc ms Q k n tgt pl st M z) (kf : ¬ y ≤ x → G I mc ms Q k n (pc + 3) pl st M z) : G I mc ms Q k n pc pl (.int y :: .int x :: st) M z := by
  intro E p l e R s m args below meth c A H locs ls X Wd L
  exact lv_icmp_ge X.1 X.2.1 hd ht (fun h => kt h E p l e R s m args below meth c A H locs ls X Wd L) (fun h => kf h E p l e R s m args below meth c A H locs ls X Wd L)
theorem g_icmp_gt {x y : Int32} {off : Int} {tgt : Nat} (hd : decode I.1 pc = .ok (.if_icmp .gt off, 3)) (ht : (pc : Int) + off = (tgt : Int)) (kt : y < x → G I mc ms Q k n tgt pl st M z) (kf : ¬ y < x → G I mc ms Q k n (pc + 3) pl st M z) : G I mc ms Q k n pc pl (.int y :: .int x :: st) M z := by
  intro E p l e R s m args below meth c A H locs ls X Wd L
  exact lv_icmp_gt X.1 X.2.1 hd ht (fun h => kt h E p l e R s m args below meth c A H locs ls X Wd L) (fun h => kf h E p l e R s m args below meth c A H locs ls X Wd L)
theorem g_icmp_le {x y : Int32} {off : Int} {tgt : Nat} (hd : decode I.1 pc = .ok (.if_icmp .le off, 3)) (ht : (pc : Int) + off = (tgt : Int)) (kt : x ≤ y → G I mc ms Q k n tgt pl st M z) (kf : ¬ x ≤ y → G I mc ms Q k n (pc + 3) pl st M z) : G I mc ms Q k n pc pl (.int y :: .int x :: st) M z := by
  intro E p l e R s m args below meth c A H locs ls X Wd L
  exact lv_icmp_le X.1 X.2.1 hd ht (fun h => kt h E p l e R s m args below meth c A H locs ls X Wd L) (fun h => kf h E p l e R s m args below meth c A H locs ls X Wd L)
theorem g_goto {off : Int} {tgt : Nat} (hd : decode I.1 pc = .ok (.goto off, 3)) (ht : (pc : Int) + off = (tgt : Int)) (K : G I mc ms Q k n tgt pl st M z) : G I mc ms Q k n pc pl st M z := by
  intro E p l e R s m args below meth c A H locs ls X Wd L
  exact lv_goto X.1 X.2.1 hd ht (K E p l e R s m args below meth c A H locs ls X Wd L)
theorem g_ifnull {x : Nat} {off : Int} (hd : decode I.1 pc = .ok (.ifnull off, 3)) (K : G I mc ms Q k n (pc + 3) pl st M z) : G I mc ms Q k n pc pl (.ref x :: st) M z := by
  intro E p l e R s m args below meth c A H locs ls X Wd L
  exact lv_ifnull X.1 X.2.1 hd (K E p l e R s m args below meth c A H locs ls X Wd L)
theorem g_ifnonnull {x : Nat} {off : Int} {tgt : Nat} (hd : decode I.1 pc = .ok (.ifnonnull off, 3)) (ht : (pc : Int) + off = (tgt : Int)) (K : G I mc ms Q k n tgt pl st M z) : G I mc ms Q k n pc pl (.ref x :: st) M z := by
  intro E p l e R s m args below meth c A H locs ls X Wd L
  exact lv_ifnonnull X.1 X.2.1 hd ht (K E p l e R s m args below meth c A H locs ls X Wd L)
theorem g_ldc {i : Nat} {v : Int32} (hd : decode I.1 pc = .ok (.ldc i, 2)) (hc : Cond.constant I.2.2.2.1 i v ∈ TBL) (K : G I mc ms Q k n (pc + 2) pl (.int v :: st) M z) : G I mc ms Q k n pc pl st M z := by
  intro E p l e R s m args below meth c A H locs ls X Wd L
  exact lv_ldc X.1 X.2.1 X.2.2.2.1 (X.2.2.2.2.1 _ hc) hd (K E p l e R s m args below meth c A H locs ls X Wd L)
theorem g_ldcw {i : Nat} {v : Int32} (hd : decode I.1 pc = .ok (.ldc_w i, 3)) (hc : Cond.constant I.2.2.2.1 i v ∈ TBL) (K : G I mc ms Q k n (pc + 3) pl (.int v :: st) M z) : G I mc ms Q k n pc pl st M z := by
  intro E p l e R s m args below meth c A H locs ls X Wd L
  exact lv_ldcw X.1 X.2.1 X.2.2.2.1 (X.2.2.2.2.1 _ hc) hd (K E p l e R s m args below meth c A H locs ls X Wd L)
theorem g_ldc2 {i : Nat} {v : Int64} (hd : decode I.1 pc = .ok (.ldc2_w i, 3)) (hc : Cond.constantLong I.2.2.2.1 i v ∈ TBL) (K : G I mc ms Q k n (pc + 3) pl (.long v :: st) M z) : G I mc ms Q k n pc pl st M z := by
  intro E p l e R s m args below meth c A H locs ls X Wd L
  exact lv_ldc2 X.1 X.2.1 X.2.2.2.1 (X.2.2.2.2.1 _ hc) hd (K E p l e R s m args below meth c A H locs ls X Wd L)
theorem g_ireturn {v : Int32} (hd : decode I.1 pc = .ok (.ireturn, 1)) (hr : I.2.2.1 = some .int)  (hk : k ≤ mc) (hn : n ≤ ms) (hQ : Q M z (some (.int v))) : G I mc ms Q k n pc pl [.int v] M z := by
  intro E p l e R s m args below meth c A H locs ls X Wd L
  obtain ⟨h1, h2, h3, h4, h5⟩ := Wd
  refine W.widen hk hn ?_
  exact W.iret (v := v) X.1 X.2.1 (X.2.2.2.2.2.2.1.trans hr) (fun t ht hW => ⟨⟨some (.int v), M, rfl, by rw [ht, h2]; exact hQ, by rw [ht]; exact h1, h4⟩, h3.F ht⟩) h3.2.2 hd X.2.2.2.2.2.1
theorem g_zreturn {v : Int32} (hd : decode I.1 pc = .ok (.ireturn, 1)) (hr : I.2.2.1 = some .boolean) (hv : narrow .boolean (.int v) = .int v) (hk : k ≤ mc) (hn : n ≤ ms) (hQ : Q M z (some (.int v))) : G I mc ms Q k n pc pl [.int v] M z := by
  intro E p l e R s m args below meth c A H locs ls X Wd L
  obtain ⟨h1, h2, h3, h4, h5⟩ := Wd
  refine W.widen hk hn ?_
  exact W.zret (v := v) X.1 X.2.1 (X.2.2.2.2.2.2.1.trans hr) hv (fun t ht hW => ⟨⟨some (.int v), M, rfl, by rw [ht, h2]; exact hQ, by rw [ht]; exact h1, h4⟩, h3.F ht⟩) h3.2.2 hd X.2.2.2.2.2.1
theorem g_lreturn {v : Int64} (hd : decode I.1 pc = .ok (.lreturn, 1)) (hr : I.2.2.1 = some .long)  (hk : k ≤ mc) (hn : n ≤ ms) (hQ : Q M z (some (.long v))) : G I mc ms Q k n pc pl [.long v] M z := by
  intro E p l e R s m args below meth c A H locs ls X Wd L
  obtain ⟨h1, h2, h3, h4, h5⟩ := Wd
  refine W.widen hk hn ?_
  exact W.lret (v := v) X.1 X.2.1 (X.2.2.2.2.2.2.1.trans hr) (fun t ht hW => ⟨⟨some (.long v), M, rfl, by rw [ht, h2]; exact hQ, by rw [ht]; exact h1, h4⟩, h3.F ht⟩) h3.2.2 hd X.2.2.2.2.2.1
theorem g_return (hd : decode I.1 pc = .ok (.return_, 1)) (hr : I.2.2.1 = none) (hk : k ≤ mc) (hn : n ≤ ms) (hQ : Q M z none) : G I mc ms Q k n pc pl [] M z := by
  intro E p l e R s m args below meth c A H locs ls X Wd L
  obtain ⟨h1, h2, h3, h4, h5⟩ := Wd
  refine W.widen hk hn ?_
  exact W.vret X.1 X.2.1 (X.2.2.2.2.2.2.1.trans hr) (fun t ht hW => ⟨⟨none, M, rfl, by rw [ht, h2]; exact hQ, by rw [ht]; exact h1, h4⟩, h3.F ht⟩) h3.2.2 hd X.2.2.2.2.2.1
/-- a class's place in 'classes', its fields -/
def CIs (ci : Nat) (C : String) (T : u_T) (N : Nat) (ty : Nat → FieldType) : Prop := classes[ci]? = some (C, T, N) ∧ (∀ w ∈ u_ws C T N, w ∈ TBL) ∧ (∀ k, k < N → parseFieldDescriptor (T k).2.2.1 = some (ty k)) ∧ (∀ a, a < N → ∀ b, b < N → a ≠ b → (T a).2.1 ≠ (T b).2.1) ∧ ∀ k, k < N → (T k).1 = C
def FL (own : String) (idx ci f : Nat) (C : String) (T : u_T) (N : Nat) (ty : Nat → FieldType) : Prop := CIs ci C T N ty ∧ f < N ∧ (Cond.fieldLink own idx C (T f).2.1 (T f).2.2.1 ∈ TBL ∨ ∃ host, Cond.fieldLinkNest own idx C (T f).2.1 (T f).2.2.1 host ∈ lw_tbl)
theorem FL.same {own : String} {idx ci f : Nat} {C : String} {T : u_T} {N : Nat} {ty : Nat → FieldType} (h : FL own idx ci f C T N ty) {s : State} : ∀ x, s.fieldFound? (T f).1 (T f).2.1 (T f).2.2.1 = some x → s.fieldFound? C (T f).2.1 (T f).2.2.1 = some x := fun x hx => by rw [← h.1.2.2.2.2 f h.2.1]; exact hx
theorem pH.one {E : pT} {M : pM} {H : Heap} (h : pH E M H) {a : Nat} {e : pE} (ha : M a = some e) : va_P E.1 classes [(a, pCv E e)] H := by
  intro k q hk
  match k, hk with
  | 0, hk => simp at hk; subst hk; exact h a e ha
  | k + 1, hk => simp at hk
theorem g_getf {idx ci f a : Nat} {C : String} {T : u_T} {N : Nat} {ty : Nat → FieldType} {fs : List Value} {v : Value} (fl : FL I.2.2.2.1 idx ci f C T N ty) (hd : decode I.1 pc = .ok (.getfield idx, 3)) (hM : M a = some (.inr (ci, fs))) (hv : fs[f]? = some v) (K : G I mc ms Q k n (pc + 3) pl (v :: st) M z) : G I mc ms Q k n pc pl (.ref a :: st) M z := by
  intro E p l e R s m args below meth c A H locs ls X Wd L
  have hP := Wd.1.one hM
  have hsame := fl.same (s := s)
  obtain ⟨⟨h1, h2, h3, h4, h5⟩, hf, hl | ⟨host, hl⟩⟩ := fl
  · exact va_get X.1 X.2.1 X.2.2.2.2.1 h2 X.2.2.2.1 X.2.2.2.2.2.2.2.2.2.1 hP 0 rfl h1 f hf (X.2.2.2.2.1 _ hl) hsame hv hd (K E p l e R s m args below meth c A H locs ls X Wd L)
  · exact va_getN X.1 X.2.1 X.2.2.2.2.1 h2 X.2.2.2.1 X.2.2.2.2.2.2.2.2.2.1 hP 0 rfl h1 f hf (va_Nw.use rfl (X.2.2.2.2.2.2.2.2.2.2.1 _ hl rfl)) hsame hv hd (K E p l e R s m args below meth c A H locs ls X Wd L)
theorem g_putf {idx ci f a : Nat} {C : String} {T : u_T} {N : Nat} {ty : Nat → FieldType} {fs : List Value} {v : Value} (fl : FL I.2.2.2.1 idx ci f C T N ty) (hfin : (T f).2.2.2 = false ∨ ((T f).2.2.2 = true ∧ I.2.2.2.2.2.2 = true ∧ C = I.2.2.2.1 ∧ Cond.fieldLink I.2.2.2.1 idx C (T f).2.1 (T f).2.2.1 ∈ TBL)) (hd : decode I.1 pc = .ok (.putfield idx, 3)) (hM : M a = some (.inr (ci, fs))) (hl : f < fs.length) (hn : narrow (ty f) v = v) (hft : fits (ty f) v = true) (K : G I mc ms Q k n (pc + 3) pl st (pU M a (.inr (ci, fs.set f v))) z) : G I mc ms Q k n pc pl (v :: .ref a :: st) M z := by
  intro E p l e R s m args below meth c A H locs ls X Wd L
  have hsame := fl.same (s := s)
  have hts := X.2.2.2.2.1
  have hKv := X.2.2.2.2.2.2.2.2.2.1
  obtain ⟨⟨h1, h2, h3, h4, h5⟩, hf, hlk⟩ := fl
  have hap := va_apart (own := C) hts h2 ty h3 h4 hKv h1
  obtain ⟨r, g1, cell, q1, q2, q3, q4⟩ := Wd.1 a _ hM
  have hr : r = (C, T, N) := Option.some.inj (g1.symm.trans h1)
  subst hr
  obtain ⟨hS, hfc, kC, hkC, hkind⟩ := hKv.1 ci _ h1
  obtain ⟨cf, kf, fi, fd, hi, hsl⟩ := hS f hf
  have hlay := hts _ (h2 _ (u_in_lay hf))
  have hst := (u_facts hfc hkC (u_lays hts h2 hf) hi).1
  have fin : ∀ (H' : Heap), H'[a]? = some (cell.setSlot fd.slot v) → H'.size = H.size → (∀ q, q ≠ a → H'[q]? = H[q]?) → W p l e R s m args below meth c H' (locs ++ [⟨a, fd.slot⟩]) k n (MQ below (pQ E A Q) args s mc ms A) (F0 m (pc + 3) ls st) := by
    intro H' e1 e2 e3
    rw [hsl] at e1 ⊢
    exact K E p l e R s m args below meth c A H' _ ls X (Wd.put hM (e := .inr (ci, fs.set f v)) ⟨_, h1, t_OB.to (V := updV (vp_V fs) f v) ⟨_, e1, q2, q3, t_set q4 hap hf v⟩ (fun j _ => vp_updV_set hl v j)⟩ e2 e3) L
  rcases hfin with hnf | ⟨hfi, hii, hCo, hlk2⟩
  · unfold u_lay at hlay
    rw [if_neg (by rw [hnf]; decide)] at hlay
    have h6 := u_store hfc hkC hkind hlay hi (h3 f hf) hn hft
    rcases hlk with hlk | ⟨host, hlk⟩
    · exact W.putK X.1 X.2.1 (f := fd) ⟨X.2.2.2.1, hts _ hlk, ⟨_, _, _, hsame _ hi⟩, hst⟩ (by rw [q2]; exact h6) q1 q3 (by rw [hsl]; exact k2_hasslot (q4 f hf)) rfl rfl hd fin
    · exact va_WputK X.1 X.2.1 (f := fd) X.2.2.2.1 (va_Nw.use rfl (X.2.2.2.2.2.2.2.2.2.2.1 _ hlk rfl)) (hsame _ hi) hst (by rw [q2]; exact h6) q1 q3 (by rw [hsl]; exact k2_hasslot (q4 f hf)) rfl rfl hd fin
  · unfold u_lay at hlay
    rw [if_pos hfi] at hlay
    have hcf : m.cls = cf := by
      obtain ⟨_, _, c', _, _, _, -, -, hf', -, -, -, hown2, -⟩ := Cond.laysFinal_spec hlay
      have e1 : c' = cf := by have := hi.symm.trans hf'; simp at this; exact this.1.symm
      rw [h5 f hf, hCo] at hown2
      rw [← e1]; exact Option.some.inj (X.2.2.2.1.symm.trans hown2)
    have h6 := u_fits hfc hkC hkind (Or.inr hlay) hi (h3 f hf) hn hft
    exact W.putFinK X.1 X.2.1 X.2.2.2.1 (hts _ hlk2) (hsame _ hi) hst hcf (X.2.2.2.2.2.2.2.1 hii) (by rw [q2]; exact h6) q1 q3 (by rw [hsl]; exact k2_hasslot (q4 f hf)) rfl rfl hd fin
theorem toNat_of {i : Int32} {j : Nat} (hi : i.toInt = (j : Int)) : i.toNatClampNeg = j := by
  show i.toInt.toNat = j
  omega
theorem nin_of {i : Int32} {j N : Nat} (hi : i.toInt = (j : Int)) (hj : j < N) : ¬ (i < 0 ∨ N ≤ i.toNatClampNeg) := by
  rw [toNat_of hi]
  rintro (h | h)
  · have := Int32.lt_iff_toInt_lt.mp h
    simp at this
    omega
  · omega
theorem g_iaload {a j N : Nat} {f : Nat → Int32} {i : Int32} (hd : decode I.1 pc = .ok (.iaload, 1)) (hM : M a = some (.inl (0, N, .inl f))) (hi : i.toInt = (j : Int)) (hj : j < N) (K : G I mc ms Q k n (pc + 1) pl (.int (f j) :: st) M z) : G I mc ms Q k n pc pl (.int i :: .ref a :: st) M z := by
  intro E p l e R s m args below meth c A H locs ls X Wd L
  have hP := Wd.1.one hM
  have K2 := K E p l e R s m args below meth c A H locs ls X Wd L
  rw [← toNat_of hi] at K2
  exact va_iald X.1 X.2.1 X.2.2.2.2.2.2.2.2.2.1 hP 0 0 rfl rfl (nin_of hi hj) hd K2
theorem g_baload {a j N : Nat} {f : Nat → Int32} {i : Int32} (hd : decode I.1 pc = .ok (.baload, 1)) (hM : M a = some (.inl (1, N, .inl f))) (hi : i.toInt = (j : Int)) (hj : j < N) (K : G I mc ms Q k n (pc + 1) pl (.int (f j) :: st) M z) : G I mc ms Q k n pc pl (.int i :: .ref a :: st) M z := by
  intro E p l e R s m args below meth c A H locs ls X Wd L
  have hP := Wd.1.one hM
  have K2 := K E p l e R s m args below meth c A H locs ls X Wd L
  rw [← toNat_of hi] at K2
  exact va_zald X.1 X.2.1 X.2.2.2.2.2.2.2.2.2.1 hP 0 1 rfl rfl (nin_of hi hj) hd K2
theorem g_aaload {a j N b : Nat} {f : Nat → Option Nat} {i : Int32} (hd : decode I.1 pc = .ok (.aaload, 1)) (hM : M a = some (.inl (2, N, .inr (.inr (.inr (.inr f)))))) (hi : i.toInt = (j : Int)) (hj : j < N) (hf : f j = some b) (K : G I mc ms Q k n (pc + 1) pl (.ref b :: st) M z) : G I mc ms Q k n pc pl (.int i :: .ref a :: st) M z := by
  intro E p l e R s m args below meth c A H locs ls X Wd L
  have hP := Wd.1.one hM
  have K2 := K E p l e R s m args below meth c A H locs ls X Wd L
  refine va_aldq X.1 X.2.1 X.2.2.2.2.2.2.2.2.2.1 hP 0 2 rfl rfl (nin_of hi hj) hd ?_
  rw [toNat_of hi, hf]
  exact K2
theorem g_alen {a t N : Nat} {x : (Nat → Int32) ⊕ (Nat → Int64) ⊕ (Nat → UInt32) ⊕ (Nat → UInt64) ⊕ (Nat → Option Nat)} (ht : t < 3) (hd : decode I.1 pc = .ok (.arraylength, 1)) (hM : M a = some (.inl (t, N, x))) (K : G I mc ms Q k n (pc + 1) pl (.int (nI N) :: st) M z) : G I mc ms Q k n pc pl (.ref a :: st) M z := by
  intro E p l e R s m args below meth c A H locs ls X Wd L
  have hP := Wd.1.one hM
  have K2 := K E p l e R s m args below meth c A H locs ls X Wd L
  match t, ht, hP with
  | 0, _, hP => exact va_alen X.1 X.2.1 X.2.2.2.2.2.2.2.2.2.1 hP 0 0 rfl rfl rfl hd K2
  | 1, _, hP => exact va_alen X.1 X.2.1 X.2.2.2.2.2.2.2.2.2.1 hP 0 1 rfl rfl rfl hd K2
  | 2, _, hP => exact va_alen X.1 X.2.1 X.2.2.2.2.2.2.2.2.2.1 hP 0 2 rfl rfl rfl hd K2
theorem arr_at {E : pT} {t N : Nat} {f g : Nat → Int32} {v : Value} {j a : Nat} {H' : Heap} (e : H'[a]? = some ((vp_cell (E.2 t) (N, .inl f)).setSlot j v)) (hg : ∀ q, Value.int (g q) = if q = j then v else .int (f q)) : va_at E.1 classes (a, pCv E (.inl (t, N, .inl g))) H' := by
  show H'[a]? = some (vp_cell (E.2 t) (N, .inl g))
  rw [e, vp_cell_i, vp_cell_i, arrV_store]
  congr 2
  funext q
  rw [hg q]
  rfl
theorem g_iastore {a j N : Nat} {f : Nat → Int32} {i x : Int32} (hd : decode I.1 pc = .ok (.iastore, 1)) (hM : M a = some (.inl (0, N, .inl f))) (hi : i.toInt = (j : Int)) (hj : j < N) (K : G I mc ms Q k n (pc + 1) pl st (pU M a (.inl (0, N, .inl (upd f j x)))) z) : G I mc ms Q k n pc pl (.int x :: .int i :: .ref a :: st) M z := by
  intro E p l e R s m args below meth c A H locs ls X Wd L
  refine W.iast X.1 X.2.1 (Wd.1 a _ hM) ((X.2.2.2.2.2.2.2.2.2.1.2 0 _ rfl).1 N (fun j => .int (f j))) (fun q => by cases q) (by show ¬ (i < 0 ∨ (arrV _ _ _).slots.size ≤ _); rw [arrV_size]; exact nin_of hi hj) rfl rfl hd fun H1 e1 z1 oq => ?_
  refine K E p l e R s m args below meth c A H1 _ ls X (Wd.put hM (arr_at e1 (fun q => ?_)) z1 oq) L
  rw [toNat_of hi]
  by_cases hq : q = j <;> simp [upd, hq]
theorem g_bastore {a j N : Nat} {f : Nat → Int32} {i x : Int32} (hd : decode I.1 pc = .ok (.bastore, 1)) (hM : M a = some (.inl (1, N, .inl f))) (hi : i.toInt = (j : Int)) (hj : j < N) (hx : narrow .boolean (.int x) = .int x) (K : G I mc ms Q k n (pc + 1) pl st (pU M a (.inl (1, N, .inl (upd f j x)))) z) : G I mc ms Q k n pc pl (.int x :: .int i :: .ref a :: st) M z := by
  intro E p l e R s m args below meth c A H locs ls X Wd L
  refine W.zast X.1 X.2.1 (Wd.1 a _ hM) ((X.2.2.2.2.2.2.2.2.2.1.2 1 _ rfl).1 N (fun j => .int (f j))) (fun q => by cases q) (by show ¬ (i < 0 ∨ (arrV _ _ _).slots.size ≤ _); rw [arrV_size]; exact nin_of hi hj) rfl rfl hd fun H1 e1 z1 oq => ?_
  refine K E p l e R s m args below meth c A H1 _ ls X (Wd.put hM (arr_at e1 (fun q => ?_)) z1 oq) L
  rw [toNat_of hi, hx]
  by_cases hq : q = j <;> simp [upd, hq]
theorem g_aastore {a j N b : Nat} {f : Nat → Option Nat} {i : Int32} {vs : List Value} (hcl : ∃ T n, classes[7]? = some ("ContextCoder$State", T, n)) (hd : decode I.1 pc = .ok (.aastore, 1)) (hM : M a = some (.inl (2, N, .inr (.inr (.inr (.inr f)))))) (hb : M b = some (.inr (7, vs))) (hi : i.toInt = (j : Int)) (hj : j < N) (K : G I mc ms Q k n (pc + 1) pl st (pU M a (.inl (2, N, .inr (.inr (.inr (.inr (va_up f j (some b)))))))) z) : G I mc ms Q k n pc pl (.ref b :: .int i :: .ref a :: st) M z := by
  intro E p l e R s m args below meth c A H locs ls X Wd L
  have hKv := X.2.2.2.2.2.2.2.2.2.1
  obtain ⟨T, nT, hcl⟩ := hcl
  obtain ⟨r', hr', cellV, g1, g2, g3, -⟩ := Wd.1 b _ hb
  have hcls := (hKv.1 7 _ hcl).2
  obtain ⟨kA, comp, k1, k2, k3, -⟩ := (hKv.2 2 _ rfl).2
  have hcomp : comp = E.1.1 7 := Option.some.inj (k3.symm.trans hcls.1)
  subst hcomp
  obtain ⟨kC, hkC, -⟩ := hcls.2
  have hn := nin_of hi hj
  refine W.aast X.1 X.2.1 (Wd.1 a _ hM) (fun q h => by cases h) (fun h => by cases h) k1 k2 rfl hkC ⟨fun h => hn (Or.inl h), by show _ < (arrV _ _ _).slots.size; rw [arrV_size]; exact Nat.not_le.mp (fun h => hn (Or.inr h))⟩ g1 (fun q h => by rw [g3] at h; cases h) (by rw [g2]; exact hkC) (by rw [g2]; exact va_assign hcls) rfl rfl hd fun H1 e1 z1 oq => ?_
  refine K E p l e R s m args below meth c A H1 _ ls X (Wd.put hM ?_ z1 oq) L
  show H1[a]? = some (vp_cell (E.2 2) (N, .inr (.inr (.inr (.inr (va_up f j (some b)))))))
  rw [e1]
  show some ((vp_cell (E.2 2) (N, .inr (.inr (.inr (.inr f))))).setSlot _ (.ref b)) = _
  rw [vp_cell_q, vp_cell_q, arrV_store]
  congr 2
  funext q
  rw [toNat_of hi]
  by_cases hq : q = j
  · subst hq; simp [updV, va_up, va_rf]
  · simp [updV, va_up, hq]
theorem g_new {idx ci : Nat} {C : String} {T : u_T} {N : Nat} {ty : Nat → FieldType} {fs : List Value} (hc : CIs ci C T N ty) (hl : Cond.classLink I.2.2.2.1 idx C ∈ TBL ∧ Cond.instantiable C N ∈ TBL ∧ Cond.initialized C ∈ TBL) (hd : decode I.1 pc = .ok (.new idx, 3)) (hfs : ∀ j, j < N → defaultValue (ty j) = vp_V fs j) (hk : k + 1 ≤ mc) (hn : n + N ≤ ms) (K : M z = none → G I mc ms Q (k + 1) (n + N) (pc + 3) pl (.ref z :: st) (pU M z (.inr (ci, fs))) (z + 1)) : G I mc ms Q k n pc pl st M z := by
  intro E p l e R s m args below meth c A H locs ls X Wd L
  have hts := X.2.2.2.2.1
  have hKn := X.2.2.2.2.2.2.2.2.2.1.1 ci _ hc.1
  have hR : R = pR I mc ms := X.2.2.2.2.2.2.2.2.1
  have hnone : M z = none := by
    cases hz : M z with
    | none => rfl
    | some e0 => exact absurd (Wd.1.lt hz) (by rw [Wd.2.1]; omega)
  refine W.newcK X.1 X.2.1 X.2.2.2.1 (hts _ hl.1) (hts _ hl.2.1) (hts _ hl.2.2) rfl hd (by rw [hR]; exact hk) (by rw [hR]; exact hn) hKn.2.1 Wd.2.1 fun H1 kC hkC e1 z1 o1 => ?_
  exact K hnone E p l e R s m args below meth c A H1 locs ls X (Wd.new (e := .inr (ci, fs)) ⟨_, hc.1, (u_born ty hts hc.2.1 hKn hkC e1 hc.2.2.1).to hfs⟩ z1 o1) L
theorem g_newarr {t : Nat} {at_ : ArrayType} {N : Nat} {i : Int32} (hty : (t = 0 ∧ newarray.typeOf at_ = .int) ∨ (t = 1 ∧ newarray.typeOf at_ = .boolean)) (hw : Cond.arrayClass (newarray.typeOf at_) ∈ TBL) (hd : decode I.1 pc = .ok (.newarray at_, 2)) (hi : i.toInt = (N : Int)) (hN : N ≤ 100000000) (hk : k + 1 ≤ mc) (hn : n + N ≤ ms) (K : M z = none → G I mc ms Q (k + 1) (n + N) (pc + 2) pl (.ref z :: st) (pU M z (.inl (t, N, .inl (fun _ => 0)))) (z + 1)) : G I mc ms Q k n pc pl (.int i :: st) M z := by
  intro E p l e R s m args below meth c A H locs ls X Wd L
  have hts := X.2.2.2.2.1
  have hR : R = pR I mc ms := X.2.2.2.2.2.2.2.2.1
  have hKv := X.2.2.2.2.2.2.2.2.2.1
  have hnone : M z = none := by
    cases hz : M z with
    | none => rfl
    | some e0 => exact absurd (Wd.1.lt hz) (by rw [Wd.2.1]; omega)
  have hn0 : ¬ i < 0 := fun h => by
    have := Int32.lt_iff_toInt_lt.mp h
    simp at this
    omega
  have hcb : componentBytes (newarray.typeOf at_) ≤ 4 := by rcases hty with ⟨-, h⟩ | ⟨-, h⟩ <;> rw [h] <;> decide
  have hbytes : N * componentBytes (newarray.typeOf at_) ≤ 536870912 := by
    have h1 : N * componentBytes (newarray.typeOf at_) ≤ N * 4 := Nat.mul_le_mul_left _ hcb
    omega
  refine va_newaK X.1 X.2.1 (hts _ hw) rfl hd rfl hn0 (toNat_of hi) hbytes (by rw [hR]; exact hk) (by rw [hR]; exact hn) Wd.2.1 fun H1 cA e1 z1 o1 hAr hNm => ?_
  have hcA : cA = E.2 t := by
    rcases hty with ⟨rfl, h⟩ | ⟨rfl, h⟩
    · rw [h] at hNm
      exact Option.some.inj (hNm.symm.trans (hKv.2 0 _ rfl).2)
    · rw [h] at hNm
      exact Option.some.inj (hNm.symm.trans (hKv.2 1 _ rfl).2)
  have hdv : defaultValue (newarray.typeOf at_) = .int 0 := by rcases hty with ⟨-, h⟩ | ⟨-, h⟩ <;> rw [h] <;> rfl
  refine K hnone E p l e R s m args below meth c A H1 locs ls X (Wd.new (e := .inl (t, N, .inl (fun _ => 0))) ?_ z1 o1) L
  show H1[z]? = some (vp_cell (E.2 t) (N, .inl (fun _ => 0)))
  rw [e1, hcA, hdv]
  rfl
theorem g_anewarr {idx N : Nat} {i : Int32} (hl : Cond.classLink I.2.2.2.1 idx "ContextCoder$State" ∈ TBL) (hd : decode I.1 pc = .ok (.anewarray idx, 3)) (hi : i.toInt = (N : Int)) (hN : N ≤ 100000000) (hk : k + 1 ≤ mc) (hn : n + N ≤ ms) (K : M z = none → G I mc ms Q (k + 1) (n + N) (pc + 3) pl (.ref z :: st) (pU M z (.inl (2, N, .inr (.inr (.inr (.inr (fun _ => none))))))) (z + 1)) : G I mc ms Q k n pc pl (.int i :: st) M z := by
  intro E p l e R s m args below meth c A H locs ls X Wd L
  have hts := X.2.2.2.2.1
  have hR : R = pR I mc ms := X.2.2.2.2.2.2.2.2.1
  have hKv := X.2.2.2.2.2.2.2.2.2.1
  have hnone : M z = none := by
    cases hz : M z with
    | none => rfl
    | some e0 => exact absurd (Wd.1.lt hz) (by rw [Wd.2.1]; omega)
  have hn0 : ¬ i < 0 := fun h => by
    have := Int32.lt_iff_toInt_lt.mp h
    simp at this
    omega
  have hT := toNat_of hi
  have hz := Wd.2.1
  refine W.anew X.1 X.2.1 X.2.2.2.1 (hts _ hl) (va_AO.use X.2.2.2.2.2.2.2.2.2.2.2) rfl hd rfl hn0 (by rw [hT]; omega) (by rw [hR]; exact hk) (by rw [hR, hT]; exact hn) fun cA kA comp f1 f2 f3 f4 => ?_
  rw [hT]
  generalize hH1 : H.push ({ cls := cA, slots := Array.replicate N .null, vm := .none } : Cell) = H1
  have z1 : H1.size = z + 1 := by rw [← hH1, Array.size_push, hz]
  have e1 : H1[z]? = some (arrV cA N (fun _ => .null)) := by rw [← hH1, ← hz, Array.getElem?_push_size, ← arrV_new]
  have o1 : ∀ q : Nat, q < z → H1[q]? = H[q]? := fun q hq => by rw [← hH1, Array.getElem?_push, if_neg (by omega)]
  have hcA : cA = E.2 2 := by
    obtain ⟨kA', comp', u1, u2, u3, u4⟩ := (hKv.2 2 _ rfl).2
    exact Option.some.inj (f1.symm.trans u4)
  rw [hz]
  refine K hnone E p l e R s m args below meth c A H1 locs ls X (Wd.new (e := .inl (2, N, .inr (.inr (.inr (.inr (fun _ => none)))))) ?_ z1 o1) L
  show H1[z]? = some (vp_cell (E.2 2) _)
  rw [e1, hcA]
  rfl
end GR
/-! calls -/
/-- what the tables say of a method: its code, its class initialised, how many arguments -/
def LkB (y : MethodName) (J : MI) (nA : Nat) : Prop := Cond.code y J.1 J.2.1 J.2.2.1 ∈ TBL ∧ Cond.initialized y.cls ∈ TBL ∧ (y.cls ≠ "java/lang/invoke/MethodHandle" ∧ y.cls ≠ "java/lang/invoke/VarHandle" ∧ (parseMethodDescriptor y.desc).map (fun d => d.parameters.length) = some nA) ∧ J.2.2.2.1 = y.cls
def LkM (own : String) (idx : Nat) (y : MethodName) : Prop := Cond.methodLink own idx y ∈ TBL ∨ ∃ host, Cond.methodLinkNest own idx y host ∈ lw_tbl
def LkV (y : MethodName) (J : MI) (nA : Nat) : Prop := LkB y J nA ∧ Cond.instanceMethod y ∈ TBL ∧ Cond.selects y.cls y y ∈ TBL
def LkS (y : MethodName) (J : MI) (nA : Nat) : Prop := LkB y J nA ∧ Cond.static y ∈ TBL
def LkI (y : MethodName) (J : MI) (nA : Nat) : Prop := LkB y J nA ∧ Cond.instanceMethod y ∈ TBL ∧ y.name = "<init>" ∧ J.2.2.1 = none
def pRoom (I J : MI) : Prop := J.2.2.2.2.1 + 1 ≤ I.2.2.2.2.1 ∧ 8 + (J.2.1 + 11) + J.2.2.2.2.2.1 ≤ I.2.2.2.2.2.1
theorem TBL_sub {y : MethodName} {J : MI} {nA : Nat} (h : LkB y J nA) : GoodIn TBL (Cond.code y J.1 J.2.1 J.2.2.1 :: TBL) := by
  intro w hw
  rcases List.mem_cons.mp hw with rfl | hw
  · exact ⟨h.1, TBL_good _ h.1⟩
  · exact ⟨hw, TBL_good _ hw⟩
theorem blind {E : pT} {M : pM} {z : Nat} {av : List Value} : FrameBlind (va_Pc av (fun U => U.heap.size = z ∧ pH E M U.heap ∧ pK E U)) :=
  fun a U g mk q => ⟨q.1, q.2.1, q.2.2.1, pK.same (rfl : U.vm = (U.calling g mk a).vm) (Vm.Alike.refl U.vm) q.2.2.2⟩
section GC
variable {p : Program} {l : Launch} {e : Env} {R : Room} {s : State} {m : MethodId} {args : Array Value} {below : List Frame} {meth : Method} {c : Code} {H : Heap} {locs : List Loc} {cells slots : Nat} {Qz : State → Prop}
theorem pCall {E : pT} {A : Nat → Prop} {M : pM} {z mc' ms' pc : Nat} {ls : Array Slot} {st rest : List Value} {Q' : pM → Nat → Option Value → Prop} {a : Array Value} (hr : va_Run p l e R s m args below meth c H locs cells slots mc' ms' (F0 m pc ls st) rest (pQ E (AA M z) Q' a) (AA M z)) (Wd : pW E A s M z H locs)
    (kk : ∀ (r : Option Value) (M' : pM) (z' : Nat) (H1 : Heap) (locs1 : List Loc), Q' M' z' r → pW E A s M' z' H1 locs1 → W p l e R s m args below meth c H1 locs1 (cells + mc') (slots + ms') Qz (F0 m (pc + 3) ls (r.toList ++ rest))) : W p l e R s m args below meth c H locs cells slots Qz (F0 m pc ls st) := by
  intro T hT X
  obtain ⟨v, st₀, t, T', L, h0, X', hL, e1, e2, ⟨⟨r, M', hv, hq, hb, hd⟩, hz, hk⟩, st⟩ := hr T hT X
  cases hv
  rw [h0] at hz hk
  obtain ⟨g1, g2, g3, g4, g5⟩ := Wd
  have hle : s.heap.size ≤ z := by rw [← g2]; exact g3.1
  have hAA : ∀ q, AA M z q → A q := by
    rintro q (⟨e0, h⟩ | h)
    · exact g4 q e0 h
    · exact g5 q (Nat.le_trans hle h)
  have hloc : ∀ q ∈ locs ++ L, A q.base := fun q hq => by
    rcases List.mem_append.mp hq with h | h
    · exact g3.2.2 q h
    · exact hAA _ (hL q h)
  obtain ⟨t2, a1, b1⟩ := kk v M' t.heap.size t.heap (locs ++ L) hq ⟨hb, rfl, ⟨Nat.le_trans g3.1 hz, fun q h1 h2 => by rw [hk q (Nat.lt_of_lt_of_le h1 g3.1) (fun h => h2 (hAA q h))]; exact g3.2.1 q h1 h2, hloc⟩, fun q e0 h => hAA q (hd q e0 h), g5⟩ T' e1 X'
  exact ⟨t2, st t2 a1, b1⟩
end GC
section GR2
variable {I : MI} {mc ms : Nat} {Q : pM → Nat → Option Value → Prop} {k n pc : Nat} {pl : List (Option Value)} {st : List Value} {M : pM} {z : Nat}
theorem g_callV {J : MI} {y : MethodName} {idx nA b ci mc' ms' : Nat} {As rest fs : List Value} {T : u_T} {N : Nat} {Q' : pM → Nat → Option Value → Prop} (hd : decode I.1 pc = .ok (.invokevirtual idx, 3)) (lm : LkM I.2.2.2.1 idx y) (lk : LkV y J nA) (hC : C J y (.ref b :: As) M z mc' ms' Q') (hst : st = As.reverse ++ .ref b :: rest) (hn : As.length = nA) (hM : M b = some (.inr (ci, fs))) (hci : classes[ci]? = some (y.cls, T, N)) (hroom : pRoom I J) (hW : (rest.map fun v => v.category).sum ≤ 8) (hk : k + mc' ≤ mc) (hs : n + ms' ≤ ms)
    (K : ∀ M' z' r, Q' M' z' r → G I mc ms Q (k + mc') (n + ms') (pc + 3) pl (r.toList ++ rest) M' z') : G I mc ms Q k n pc pl st M z := by
  intro E p l e R s m args below meth c A H locs ls X Wd L
  have hts := X.2.2.2.2.1
  have hKv := X.2.2.2.2.2.2.2.2.2
  have hR : R = pR I mc ms := X.2.2.2.2.2.2.2.2.1
  have hrec := va_recv (D := E.1) (cl := classes) hKv.1 (Wd.1.one hM) (ci := ci) (q0 := 0) hci rfl
  have hpre : PreV s H y.cls b (va_Pc (.ref b :: As) (fun U => U.heap.size = z ∧ pH E M U.heap ∧ pK E U)) As := ⟨blind, hrec, fun U hU hW => ⟨rfl, by rw [hU]; exact Wd.2.1, by rw [hU]; exact Wd.1, hKv.moved hW⟩⟩
  have hcb : (pR J mc' ms').frames + 1 ≤ R.frames ∧ 8 + (J.2.1 + 11) + (pR J mc' ms').locals ≤ R.locals := by rw [hR]; exact hroom
  have hf : k + mc' ≤ R.cells ∧ n + ms' ≤ R.slots := by rw [hR]; exact ⟨hk, hs⟩
  rcases lm with lm | ⟨host, lm⟩
  · refine pCall (va_runV (As := As) (rest := rest) ⟨X.1, X.2.1, X.2.2.1, X.2.2.2.1, hts⟩ (hC l E) ⟨callB_of nA hts (TBL_sub lk.1) rfl rfl rfl (hts _ lk.1.2.1) (hts _ lm) lk.1.2.2.1 hcb, hts _ lk.2.1, hts _ lk.2.2⟩ hpre rfl hn L.2.1 hst (lv_room hW) hd hf) Wd ?_
    exact fun r M' z' H1 locs1 hq hw => K M' z' r hq E p l e R s m args below meth c A H1 locs1 ls X hw L
  · refine pCall (va_runVN (As := As) (rest := rest) ⟨X.1, X.2.1, X.2.2.1, X.2.2.2.1, hts⟩ (hC l E) ⟨va_cnB nA hts (TBL_sub lk.1) rfl rfl rfl (hKv.2.1 _ lm rfl) (hts _ lk.1.2.1) lk.1.2.2.1 hcb, hts _ lk.2.1, hts _ lk.2.2⟩ hpre rfl hn L.2.1 hst (lv_room hW) hd hf) Wd ?_
    exact fun r M' z' H1 locs1 hq hw => K M' z' r hq E p l e R s m args below meth c A H1 locs1 ls X hw L
theorem g_callS {J : MI} {y : MethodName} {idx nA mc' ms' : Nat} {As rest : List Value} {Q' : pM → Nat → Option Value → Prop} (hd : decode I.1 pc = .ok (.invokestatic idx, 3)) (lm : LkM I.2.2.2.1 idx y) (lk : LkS y J nA) (hC : C J y As M z mc' ms' Q') (hst : st = As.reverse ++ rest) (hn : As.length = nA) (hroom : pRoom I J) (hW : (rest.map fun v => v.category).sum ≤ 8) (hk : k + mc' ≤ mc) (hs : n + ms' ≤ ms)
    (K : ∀ M' z' r, Q' M' z' r → G I mc ms Q (k + mc') (n + ms') (pc + 3) pl (r.toList ++ rest) M' z') : G I mc ms Q k n pc pl st M z := by
  intro E p l e R s m args below meth c A H locs ls X Wd L
  have hts := X.2.2.2.2.1
  have hKv := X.2.2.2.2.2.2.2.2.2
  have hR : R = pR I mc ms := X.2.2.2.2.2.2.2.2.1
  have hpre : PreS s H (va_Pc As (fun U => U.heap.size = z ∧ pH E M U.heap ∧ pK E U)) As := ⟨blind, fun U hU hW => ⟨rfl, by rw [hU]; exact Wd.2.1, by rw [hU]; exact Wd.1, hKv.moved hW⟩⟩
  have hcb : (pR J mc' ms').frames + 1 ≤ R.frames ∧ 8 + (J.2.1 + 11) + (pR J mc' ms').locals ≤ R.locals := by rw [hR]; exact hroom
  have hf : k + mc' ≤ R.cells ∧ n + ms' ≤ R.slots := by rw [hR]; exact ⟨hk, hs⟩
  rcases lm with lm | ⟨host, lm⟩
  · refine pCall (va_runS (As := As) (rest := rest) ⟨X.1, X.2.1, X.2.2.1, X.2.2.2.1, hts⟩ (hC l E) ⟨callB_of nA hts (TBL_sub lk.1) rfl rfl rfl (hts _ lk.1.2.1) (hts _ lm) lk.1.2.2.1 hcb, hts _ lk.2⟩ hpre rfl hn L.2.1 hst (lv_room hW) hd hf) Wd ?_
    exact fun r M' z' H1 locs1 hq hw => K M' z' r hq E p l e R s m args below meth c A H1 locs1 ls X hw L
  · refine pCall (va_runSN (As := As) (rest := rest) ⟨X.1, X.2.1, X.2.2.1, X.2.2.2.1, hts⟩ (hC l E) ⟨va_cnB nA hts (TBL_sub lk.1) rfl rfl rfl (hKv.2.1 _ lm rfl) (hts _ lk.1.2.1) lk.1.2.2.1 hcb, hts _ lk.2, trivial⟩ hpre rfl hn L.2.1 hst (lv_room hW) hd hf) Wd ?_
    exact fun r M' z' H1 locs1 hq hw => K M' z' r hq E p l e R s m args below meth c A H1 locs1 ls X hw L
theorem g_callI {J : MI} {y : MethodName} {idx nA b mc' ms' : Nat} {As rest : List Value} {Q' : pM → Nat → Option Value → Prop} (hd : decode I.1 pc = .ok (.invokespecial idx, 3)) (lm : LkM I.2.2.2.1 idx y) (lk : LkI y J nA) (hC : C J y (.ref b :: As) M z mc' ms' Q') (hst : st = As.reverse ++ .ref b :: rest) (hn : As.length = nA) (hroom : pRoom I J) (hW : (rest.map fun v => v.category).sum ≤ 8) (hk : k + mc' ≤ mc) (hs : n + ms' ≤ ms)
    (K : ∀ M' z' r, Q' M' z' r → G I mc ms Q (k + mc') (n + ms') (pc + 3) pl (r.toList ++ rest) M' z') : G I mc ms Q k n pc pl st M z := by
  intro E p l e R s m args below meth c A H locs ls X Wd L
  have hts := X.2.2.2.2.1
  have hKv := X.2.2.2.2.2.2.2.2.2
  have hR : R = pR I mc ms := X.2.2.2.2.2.2.2.2.1
  have hpre : PreS s H (va_Pc (.ref b :: As) (fun U => U.heap.size = z ∧ pH E M U.heap ∧ pK E U)) (.ref b :: As) := ⟨blind, fun U hU hW => ⟨rfl, by rw [hU]; exact Wd.2.1, by rw [hU]; exact Wd.1, hKv.moved hW⟩⟩
  have hcb : (pR J mc' ms').frames + 1 ≤ R.frames ∧ 8 + (J.2.1 + 11) + (pR J mc' ms').locals ≤ R.locals := by rw [hR]; exact hroom
  have hf : k + mc' ≤ R.cells ∧ n + ms' ≤ R.slots := by rw [hR]; exact ⟨hk, hs⟩
  have hM := hC l E
  have hB := lk.1
  obtain ⟨J1, J2, J3, J4⟩ := J
  obtain ⟨-, hin, hnm, hret⟩ := lk
  have hret : J3 = none := hret
  subst hret
  rcases lm with lm | ⟨host, lm⟩
  · refine pCall (va_runI (As := As) (rest := rest) ⟨X.1, X.2.1, X.2.2.1, X.2.2.2.1, hts⟩ hM ⟨callB_of nA hts (TBL_sub hB) rfl rfl rfl (hts _ hB.2.1) (hts _ lm) hB.2.2.1 hcb, hnm, hts _ hin⟩ hpre rfl hn L.2.1 hst (lv_room hW) hd hf) Wd ?_
    exact fun r M' z' H1 locs1 hq hw => K M' z' r hq E p l e R s m args below meth c A H1 locs1 ls X hw L
  · refine pCall (va_runIN (As := As) (rest := rest) ⟨X.1, X.2.1, X.2.2.1, X.2.2.2.1, hts⟩ hM ⟨va_cnB nA hts (TBL_sub hB) rfl rfl rfl (hKv.2.1 _ lm rfl) (hts _ hB.2.1) hB.2.2.1 hcb, hnm, hts _ hin⟩ hpre rfl hn L.2.1 hst (lv_room hW) hd hf) Wd ?_
    exact fun r M' z' H1 locs1 hq hw => K M' z' r hq E p l e R s m args below meth c A H1 locs1 ls X hw L
theorem g_objInit {idx b : Nat} (hl : Cond.methodLink I.2.2.2.1 idx Lib.objectInit ∈ TBL ∧ Cond.instanceMethod Lib.objectInit ∈ TBL ∧ Cond.code Lib.objectInit ⟨#[0xb1]⟩ 1 none ∈ TBL) (hd : decode I.1 pc = .ok (.invokespecial idx, 3)) (hroom : 1 ≤ I.2.2.2.2.1 ∧ (st.map fun v => v.category).sum + 12 ≤ I.2.2.2.2.2.1) (K : G I mc ms Q k n (pc + 3) pl st M z) : G I mc ms Q k n pc pl (.ref b :: st) M z := by
  intro E p l e R s m args below meth c A H locs ls X Wd L
  have hts := X.2.2.2.2.1
  have hR : R = pR I mc ms := X.2.2.2.2.2.2.2.2.1
  refine W.objInit X.1 X.2.1 X.2.2.2.1 (hts _ hl.1) (hts _ hl.2.1) (hts _ hl.2.2) rfl (by rw [X.2.2.1]; exact L.2.1) rfl hd (by rw [hR]; exact hroom.1) (by rw [hR]; show 2 * 0 + _ + 12 ≤ _; have := hroom.2; show _ ≤ I.2.2.2.2.2.1; omega) ?_
  exact K E p l e R s m args below meth c A H locs ls X Wd L
theorem g_max {idx : Nat} {x y : Int32} (hl : Cond.methodLink I.2.2.2.1 idx Lib.Math.max.name ∈ TBL ∧ Cond.static Lib.Math.max.name ∈ TBL ∧ Cond.initialized "java/lang/Math" ∈ TBL ∧ Cond.code Lib.Math.max.name Lib.Math.max.code 2 (some .int) ∈ TBL) (hd : decode I.1 pc = .ok (.invokestatic idx, 3)) (hroom : 1 ≤ I.2.2.2.2.1 ∧ (st.map fun v => v.category).sum + 13 ≤ I.2.2.2.2.2.1) (hk : k ≤ mc) (hn : n ≤ ms) (K : G I mc ms Q k n (pc + 3) pl (.int (if x < y then y else x) :: st) M z) : G I mc ms Q k n pc pl (.int y :: .int x :: st) M z := by
  intro E p l e R s m args below meth c A H locs ls X Wd L
  have hts := X.2.2.2.2.1
  have hR : R = pR I mc ms := X.2.2.2.2.2.2.2.2.1
  exact va_mmax X.1 X.2.1 (by rw [X.2.2.1]; exact L.2.1.symm) X.2.2.2.1 (hts _ hl.1) (hts _ hl.2.1) (hts _ hl.2.2.1) (hts _ hl.2.2.2) (by rw [hR]; exact hroom.1) (by rw [hR]; exact hroom.2) (by rw [hR]; exact hk) (by rw [hR]; exact hn) hd (K E p l e R s m args below meth c A H locs ls X Wd L)
theorem g_min {idx : Nat} {x y : Int32} (hl : Cond.methodLink I.2.2.2.1 idx Lib.Math.min.name ∈ TBL ∧ Cond.static Lib.Math.min.name ∈ TBL ∧ Cond.initialized "java/lang/Math" ∈ TBL ∧ Cond.code Lib.Math.min.name Lib.Math.min.code 2 (some .int) ∈ TBL) (hd : decode I.1 pc = .ok (.invokestatic idx, 3)) (hroom : 1 ≤ I.2.2.2.2.1 ∧ (st.map fun v => v.category).sum + 13 ≤ I.2.2.2.2.2.1) (hk : k ≤ mc) (hn : n ≤ ms) (K : G I mc ms Q k n (pc + 3) pl (.int (if y < x then y else x) :: st) M z) : G I mc ms Q k n pc pl (.int y :: .int x :: st) M z := by
  intro E p l e R s m args below meth c A H locs ls X Wd L
  have hts := X.2.2.2.2.1
  have hR : R = pR I mc ms := X.2.2.2.2.2.2.2.2.1
  exact va_mmin X.1 X.2.1 (by rw [X.2.2.1]; exact L.2.1.symm) X.2.2.2.1 (hts _ hl.1) (hts _ hl.2.1) (hts _ hl.2.2.1) (hts _ hl.2.2.2) (by rw [hR]; exact hroom.1) (by rw [hR]; exact hroom.2) (by rw [hR]; exact hk) (by rw [hR]; exact hn) hd (K E p l e R s m args below meth c A H locs ls X Wd L)
theorem g_minL {idx : Nat} {x y : Int64} (hl : Cond.methodLink I.2.2.2.1 idx Lib.MathLoose.min_long.x ∈ TBL ∧ Cond.static Lib.MathLoose.min_long.x ∈ TBL ∧ Cond.initialized "java/lang/Math" ∈ TBL ∧ Cond.code Lib.MathLoose.min_long.x Lib.MathLoose.min_long.code 4 (some .long) ∈ TBL) (hd : decode I.1 pc = .ok (.invokestatic idx, 3)) (hroom : 1 ≤ I.2.2.2.2.1 ∧ (st.map fun v => v.category).sum + 15 ≤ I.2.2.2.2.2.1) (hk : k ≤ mc) (hn : n ≤ ms) (K : G I mc ms Q k n (pc + 3) pl (.long (if y < x then y else x) :: st) M z) : G I mc ms Q k n pc pl (.long y :: .long x :: st) M z := by
  intro E p l e R s m args below meth c A H locs ls X Wd L
  have hts := X.2.2.2.2.1
  have hR : R = pR I mc ms := X.2.2.2.2.2.2.2.2.1
  exact va_mmin_long X.1 X.2.1 (by rw [X.2.2.1]; exact L.2.1.symm) X.2.2.2.1 (hts _ hl.1) (hts _ hl.2.1) (hts _ hl.2.2.1) (hts _ hl.2.2.2) (by rw [hR]; exact hroom.1) (by rw [hR]; exact hroom.2) (by rw [hR]; exact hk) (by rw [hR]; exact hn) hd (K E p l e R s m args below meth c A H locs ls X Wd L)
/-- System.arraycopy between two int arrays, from place 0 to place 0 or from anywhere -/
theorem g_copy {idx a0 a n0 n1 js jd jn : Nat} {f g : Nat → Int32} {sp dp i : Int32} (hl : Cond.methodLink I.2.2.2.1 idx arraycopyName ∈ TBL ∧ Cond.native arraycopyName ∈ TBL ∧ Cond.static arraycopyName ∈ TBL ∧ Cond.initialized "java/lang/System" ∈ TBL) (hd : decode I.1 pc = .ok (.invokestatic idx, 3)) (hroom : 1 ≤ I.2.2.2.2.1 ∧ (st.map fun v => v.category).sum + (nativeFrameWords "java/lang/System" "arraycopy" 5 + 11) ≤ I.2.2.2.2.2.1) (hM0 : M a0 = some (.inl (0, n0, .inl f))) (hM : M a = some (.inl (0, n1, .inl g))) (hs : sp.toInt = (js : Int)) (hdp : dp.toInt = (jd : Int)) (hi : i.toInt = (jn : Int)) (h4 : js + jn ≤ n0) (h5 : jd + jn ≤ n1)
    (K : G I mc ms Q k n (pc + 3) pl st (pU M a (.inl (0, n1, .inl (va_cpy f g js jd jn)))) z) : G I mc ms Q k n pc pl (.int i :: .int dp :: .ref a :: .int sp :: .ref a0 :: st) M z := by
  intro E p l e R s m args below meth c A H locs ls X Wd L
  have hts := X.2.2.2.2.1
  have hR : R = pR I mc ms := X.2.2.2.2.2.2.2.2.1
  have hKv := X.2.2.2.2.2.2.2.2.2
  have neg : ∀ {x : Int32} {j : Nat}, x.toInt = (j : Int) → ¬ x < 0 := fun {x j} h q => by
    have := Int32.lt_iff_toInt_lt.mp q
    simp at this
    omega
  intro T hT Xs
  have hc0 : H[a0]? = some (vp_cell (E.2 0) (n0, .inl f)) := Wd.1 a0 _ hM0
  have hc1 : H[a]? = some (vp_cell (E.2 0) (n1, .inl g)) := Wd.1 a _ hM
  obtain ⟨-, k0, hk0, cm0, hkk0⟩ := (hKv.1.2 0 _ rfl).1 n0 (fun j => .int (f j))
  obtain ⟨-, k1, hk1, cm1, hkk1⟩ := (hKv.1.2 0 _ rfl).1 n1 (fun j => .int (g j))
  have hts' := toNat_of hs
  have htd' := toNat_of hdp
  have hti' := toNat_of hi
  obtain ⟨vm', X', step⟩ := Xs.arraycopy X.1 X.2.2.2.1 (hts _ hl.1) (hts _ hl.2.1) (hts _ hl.2.2.1) (hts _ hl.2.2.2) (src := a0) (dst := a) (cs := vp_cell (E.2 0) (n0, .inl f)) (cd := vp_cell (E.2 0) (n1, .inl g)) (srcPos := sp) (destPos := dp) (n := i) (by rw [hT]; exact hc0) (by rw [hT]; exact hc1)
    (fun _ h => by cases h) (fun _ h => by cases h) (fun h => by cases h) (fun h => by cases h) hk0 hk1 hkk0 hkk1 (by simp [refKind]) (neg hs) (neg hdp) (neg hi)
    (by rw [hs, hi]; show ¬ _ > ((arrV (E.2 0) n0 (fun j => .int (f j))).slots.size : Int); rw [arrV_size]; omega)
    (by rw [hdp, hi]; show ¬ _ > ((arrV (E.2 0) n1 (fun j => .int (g j))).slots.size : Int); rw [arrV_size]; omega)
    (fun vm₁ _ q hq => by
      have e : (vp_cell (E.2 0) (n0, .inl f)).slots.getD (sp.toNatClampNeg + q) .null = .int (f (sp.toNatClampNeg + q)) := by
        show (arrV (E.2 0) n0 (fun j => .int (f j))).slots.getD _ _ = _
        rw [Array.getD_eq_getD_getElem?, arrV_read _ _ (by omega)]
        rfl
      refine ⟨?_, ?_⟩
      · rw [e]
        rfl
      · rw [e]
        exact trivial)
    (g := F0 m pc ls (.int i :: .int dp :: .ref a :: .int sp :: .ref a0 :: st)) rfl (by rw [X.2.2.1]; exact L.2.1) (rest := st) rfl (by rw [X.2.1]; exact hd) (by rw [hR]; exact hroom.1) (by rw [hR]; show 2 * 0 + _ + _ ≤ _; have := hroom.2; show _ ≤ I.2.2.2.2.2.1; omega)
  have e1 : copied (vp_cell (E.2 0) (n0, .inl f)) (vp_cell (E.2 0) (n1, .inl g)) sp dp i = vp_cell (E.2 0) (n1, .inl (va_cpy f g js jd jn)) := by
    rw [← hts', ← htd', ← hti']
    exact va_copied (fun z => .int z) (E.2 0) (E.2 0) f g (by omega)
  rw [e1] at X' step
  have hl : a < H.size := (Array.getElem?_eq_some_iff.mp hc1).1
  have hheap : ((T.setVm vm').setCell a (vp_cell (E.2 0) (n1, .inl (va_cpy f g js jd jn)))).heap = H.setIfInBounds a (vp_cell (E.2 0) (n1, .inl (va_cpy f g js jd jn))) := by rw [← hT]; rfl
  have oq : ∀ q : Nat, q ≠ a → (H.setIfInBounds a (vp_cell (E.2 0) (n1, .inl (va_cpy f g js jd jn))))[q]? = H[q]? := fun q hq => by simp [Array.getElem?_setIfInBounds, Ne.symm hq]
  have hput := Wd.put (i := 0) hM (e := .inl (0, n1, .inl (va_cpy f g js jd jn))) (H' := H.setIfInBounds a (vp_cell (E.2 0) (n1, .inl (va_cpy f g js jd jn)))) (show (H.setIfInBounds a _)[a]? = some _ by simp [Array.getElem?_setIfInBounds, hl, pCv]) (by simp) oq
  have hAa := Wd.2.2.2.1 a _ hM
  obtain ⟨t, a1, b1⟩ := K E p l e R s m args below meth c A _ _ ls X ⟨hput.1, hput.2.1, ⟨hput.2.2.1.1, hput.2.2.1.2.1, fun q hq => by
      rcases List.mem_append.mp hq with h | h
      · exact Wd.2.2.1.2.2 q h
      · obtain ⟨w, -, hw⟩ := List.mem_map.mp h
        rw [← hw]
        exact hAa⟩, hput.2.2.2⟩ L _ hheap X'
  exact ⟨t, step t a1, b1⟩
end GR2
