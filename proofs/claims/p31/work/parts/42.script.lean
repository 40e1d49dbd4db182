/-! the logic with a script beside it: a row of ints at bS that nothing changes and that lies in no cell of the memory -/
def pS (bS LS : Nat) (xS : Nat → Int32) (s : State) (A : Nat → Prop) : Prop := va_X bS LS xS s s.heap ∧ bS < s.heap.size ∧ ¬ A bS
def GS (bS LS : Nat) (xS : Nat → Int32) (I : MI) (mc ms : Nat) (Q : pM → Nat → Option Value → Prop) (k n pc : Nat) (pl : List (Option Value)) (st : List Value) (M : pM) (z : Nat) : Prop :=
  ∀ (E : pT) (p : Program) (l : Launch) (e : Env) (R : Room) (s : State) (m : MethodId) (args : Array Value) (below : List Frame) (meth : Method) (c : Code) (A : Nat → Prop) (H : Heap) (locs : List Loc) (ls : Array Slot),
    pX I mc ms E p R s m args meth c → pW E A s M z H locs → lvv ls I.2.1 pl → pS bS LS xS s A → W p l e R s m args below meth c H locs k n (MQ below (pQ E A Q) args s mc ms A) (F0 m pc ls st)
section GSS
variable {bS LS : Nat} {xS : Nat → Int32} {I : MI} {mc ms : Nat} {Q : pM → Nat → Option Value → Prop} {k n pc : Nat} {pl : List (Option Value)} {st : List Value} {M : pM} {z : Nat}
theorem hg_iconst {c0 : Int} {v : Int32} (hd : decode I.1 pc = .ok (.iconst c0, 1)) (hv : Int32.ofInt c0 = v) (K : GS bS LS xS I mc ms Q k n (pc + 1) pl (.int v :: st) M z) : GS bS LS xS I mc ms Q k n pc pl (st) M z := by
  intro E p l e R s m args below meth c A H locs ls X Wd L Y
  exact lv_iconst X.1 X.2.1 hd hv (K E p l e R s m args below meth c A H locs ls X Wd L Y)
theorem hg_bipush {c0 : Int} {v : Int32} (hd : decode I.1 pc = .ok (.bipush c0, 2)) (hv : (Int8.ofInt c0).toInt32 = v) (K : GS bS LS xS I mc ms Q k n (pc + 2) pl (.int v :: st) M z) : GS bS LS xS I mc ms Q k n pc pl (st) M z := by
  intro E p l e R s m args below meth c A H locs ls X Wd L Y
  exact lv_bipush X.1 X.2.1 hd hv (K E p l e R s m args below meth c A H locs ls X Wd L Y)
theorem hg_sipush {c0 : Int} {v : Int32} (hd : decode I.1 pc = .ok (.sipush c0, 3)) (hv : (Int16.ofInt c0).toInt32 = v) (K : GS bS LS xS I mc ms Q k n (pc + 3) pl (.int v :: st) M z) : GS bS LS xS I mc ms Q k n pc pl (st) M z := by
  intro E p l e R s m args below meth c A H locs ls X Wd L Y
  exact lv_sipush X.1 X.2.1 hd hv (K E p l e R s m args below meth c A H locs ls X Wd L Y)
theorem hg_aload_n {c0 : Fin 4} {x : Nat} (hd : decode I.1 pc = .ok (.aload_n c0, 1)) (hl : pl[(c0 : Nat)]? = some (some (.ref x))) (K : GS bS LS xS I mc ms Q k n (pc + 1) pl (.ref x :: st) M z) : GS bS LS xS I mc ms Q k n pc pl (st) M z := by
  intro E p l e R s m args below meth c A H locs ls X Wd L Y
  exact lv_aload_n X.1 X.2.1 hd rfl (L.2.2.2 _ _ hl) (K E p l e R s m args below meth c A H locs ls X Wd L Y)
theorem hg_aload {i : Nat} {x : Nat} (hd : decode I.1 pc = .ok (.aload i, 2)) (hl : pl[i]? = some (some (.ref x))) (K : GS bS LS xS I mc ms Q k n (pc + 2) pl (.ref x :: st) M z) : GS bS LS xS I mc ms Q k n pc pl (st) M z := by
  intro E p l e R s m args below meth c A H locs ls X Wd L Y
  exact lv_aload X.1 X.2.1 hd (L.2.2.2 _ _ hl) (K E p l e R s m args below meth c A H locs ls X Wd L Y)
theorem hg_iload_n {c0 : Fin 4} {x : Int32} (hd : decode I.1 pc = .ok (.iload_n c0, 1)) (hl : pl[(c0 : Nat)]? = some (some (.int x))) (K : GS bS LS xS I mc ms Q k n (pc + 1) pl (.int x :: st) M z) : GS bS LS xS I mc ms Q k n pc pl (st) M z := by
  intro E p l e R s m args below meth c A H locs ls X Wd L Y
  exact lv_iload_n X.1 X.2.1 hd rfl (L.2.2.2 _ _ hl) (K E p l e R s m args below meth c A H locs ls X Wd L Y)
theorem hg_iload {i : Nat} {x : Int32} (hd : decode I.1 pc = .ok (.iload i, 2)) (hl : pl[i]? = some (some (.int x))) (K : GS bS LS xS I mc ms Q k n (pc + 2) pl (.int x :: st) M z) : GS bS LS xS I mc ms Q k n pc pl (st) M z := by
  intro E p l e R s m args below meth c A H locs ls X Wd L Y
  exact lv_iload X.1 X.2.1 hd (L.2.2.2 _ _ hl) (K E p l e R s m args below meth c A H locs ls X Wd L Y)
theorem hg_istore_n {c0 : Fin 4} {i : Nat} {x : Int32} (hd : decode I.1 pc = .ok (.istore_n c0, 1)) (hi : (c0 : Nat) = i) (hn : i < I.2.1) (K : GS bS LS xS I mc ms Q k n (pc + 1) (s1 pl i (.int x)) st M z) : GS bS LS xS I mc ms Q k n pc pl (.int x :: st) M z := by
  intro E p l e R s m args below meth c A H locs ls X Wd L Y
  exact lv_istore_n X.1 X.2.1 hd hi (lvv_en L) hn rfl (fun ls' h' => K E p l e R s m args below meth c A H locs ls' X Wd (lvv_s1 L.1 h') Y)
theorem hg_istore {i : Nat} {x : Int32} (hd : decode I.1 pc = .ok (.istore i, 2)) (hn : i < I.2.1) (K : GS bS LS xS I mc ms Q k n (pc + 2) (s1 pl i (.int x)) st M z) : GS bS LS xS I mc ms Q k n pc pl (.int x :: st) M z := by
  intro E p l e R s m args below meth c A H locs ls X Wd L Y
  exact lv_istore X.1 X.2.1 hd (lvv_en L) hn rfl (fun ls' h' => K E p l e R s m args below meth c A H locs ls' X Wd (lvv_s1 L.1 h') Y)
theorem hg_astore_n {c0 : Fin 4} {i : Nat} {x : Nat} (hd : decode I.1 pc = .ok (.astore_n c0, 1)) (hi : (c0 : Nat) = i) (hn : i < I.2.1) (K : GS bS LS xS I mc ms Q k n (pc + 1) (s1 pl i (.ref x)) st M z) : GS bS LS xS I mc ms Q k n pc pl (.ref x :: st) M z := by
  intro E p l e R s m args below meth c A H locs ls X Wd L Y
  exact lv_astore_n X.1 X.2.1 hd hi (lvv_en L) hn rfl (fun ls' h' => K E p l e R s m args below meth c A H locs ls' X Wd (lvv_s1 L.1 h') Y)
theorem hg_iinc {i : Nat} {c0 : Int} {x v : Int32} (hd : decode I.1 pc = .ok (.iinc i c0, 3)) (hl : pl[i]? = some (some (.int x))) (hv : x + Int32.ofInt c0 = v) (hn : i < I.2.1) (K : GS bS LS xS I mc ms Q k n (pc + 3) (s1 pl i (.int v)) st M z) : GS bS LS xS I mc ms Q k n pc pl st M z := by
  intro E p l e R s m args below meth c A H locs ls X Wd L Y
  have hm : (i, Value.int x) ∈ en 0 pl := (mem_en pl 0 _).mpr ⟨Nat.zero_le _, by simpa using hl⟩
  obtain ⟨j, hj⟩ := List.getElem?_of_mem hm
  exact lv_iinc X.1 X.2.1 hd (lvv_en L) hj hv hn rfl (fun ls' h' => K E p l e R s m args below meth c A H locs ls' X Wd (lvv_s1 L.1 h') Y)
theorem hg_iadd {x y : Int32} (hd : decode I.1 pc = .ok (.iadd, 1))  (K : GS bS LS xS I mc ms Q k n (pc + 1) pl (.int (x + y) :: st) M z) : GS bS LS xS I mc ms Q k n pc pl (.int y :: .int x :: st) M z := by
  intro E p l e R s m args below meth c A H locs ls X Wd L Y
  exact lv_iadd X.1 X.2.1 hd  (K E p l e R s m args below meth c A H locs ls X Wd L Y)
theorem hg_isub {x y : Int32} (hd : decode I.1 pc = .ok (.isub, 1))  (K : GS bS LS xS I mc ms Q k n (pc + 1) pl (.int (x - y) :: st) M z) : GS bS LS xS I mc ms Q k n pc pl (.int y :: .int x :: st) M z := by
  intro E p l e R s m args below meth c A H locs ls X Wd L Y
  exact lv_isub X.1 X.2.1 hd  (K E p l e R s m args below meth c A H locs ls X Wd L Y)
theorem hg_imul {x y : Int32} (hd : decode I.1 pc = .ok (.imul, 1))  (K : GS bS LS xS I mc ms Q k n (pc + 1) pl (.int (x * y) :: st) M z) : GS bS LS xS I mc ms Q k n pc pl (.int y :: .int x :: st) M z := by
  intro E p l e R s m args below meth c A H locs ls X Wd L Y
  exact lv_imul X.1 X.2.1 hd  (K E p l e R s m args below meth c A H locs ls X Wd L Y)
theorem hg_iand {x y : Int32} (hd : decode I.1 pc = .ok (.iand, 1))  (K : GS bS LS xS I mc ms Q k n (pc + 1) pl (.int (x &&& y) :: st) M z) : GS bS LS xS I mc ms Q k n pc pl (.int y :: .int x :: st) M z := by
  intro E p l e R s m args below meth c A H locs ls X Wd L Y
  exact lv_iand X.1 X.2.1 hd  (K E p l e R s m args below meth c A H locs ls X Wd L Y)
theorem hg_ishr {x y : Int32} (hd : decode I.1 pc = .ok (.ishr, 1))  (K : GS bS LS xS I mc ms Q k n (pc + 1) pl (.int (x >>> (y &&& 31)) :: st) M z) : GS bS LS xS I mc ms Q k n pc pl (.int y :: .int x :: st) M z := by
  intro E p l e R s m args below meth c A H locs ls X Wd L Y
  exact lv_ishr X.1 X.2.1 hd  (K E p l e R s m args below meth c A H locs ls X Wd L Y)
theorem hg_lcmp {x y : Int64} (hd : decode I.1 pc = .ok (.lcmp, 1))  (K : GS bS LS xS I mc ms Q k n (pc + 1) pl (.int (lg_cmp x y) :: st) M z) : GS bS LS xS I mc ms Q k n pc pl (.long y :: .long x :: st) M z := by
  intro E p l e R s m args below meth c A H locs ls X Wd L Y
  exact W.lcmp X.1 X.2.1 hd  (K E p l e R s m args below meth c A H locs ls X Wd L Y)
theorem hg_dup {va : Value} (hd : decode I.1 pc = .ok (.dup, 1)) (hva : va.category = 1) (K : GS bS LS xS I mc ms Q k n (pc + 1) pl (va :: va :: st) M z) : GS bS LS xS I mc ms Q k n pc pl (va :: st) M z := by
  intro E p l e R s m args below meth c A H locs ls X Wd L Y
  exact lv_dup X.1 X.2.1 hd hva (K E p l e R s m args below meth c A H locs ls X Wd L Y)
theorem hg_if_eq {x : Int32} {off : Int} {tgt : Nat} (hd : decode I.1 pc = .ok (.ifCond .eq off, 3)) (ht : (pc : Int) + off = (tgt : Int)) (kt : x = 0 → GS bS LS xS I mc ms Q k n tgt pl st M z) (kf : ¬ x = 0 → GS bS LS xS I mc ms Q k n (pc + 3) pl st M z) : GS bS LS xS I mc ms Q k n pc pl (.int x :: st) M z := by
  intro E p l e R s m args below meth c A H locs ls X Wd L Y
  exact lv_if_eq X.1 X.2.1 hd ht (fun h => kt h E p l e R s m args below meth c A H locs ls X Wd L Y) (fun h => kf h E p l e R s m args below meth c A H locs ls X Wd L Y)
theorem hg_if_ne {x : Int32} {off : Int} {tgt : Nat} (hd : decode I.1 pc = .ok (.ifCond .ne off, 3)) (ht : (pc : Int) + off = (tgt : Int)) (kt : ¬ x = 0 → GS bS LS xS I mc ms Q k n tgt pl st M z) (kf : x = 0 → GS bS LS xS I mc ms Q k n (pc + 3) pl st M z) : GS bS LS xS I mc ms Q k n pc pl (.int x :: st) M z := by
  intro E p l e R s m args below meth c A H locs ls X Wd L Y
  exact lv_if_ne X.1 X.2.1 hd ht (fun h => kt h E p l e R s m args below meth c A H locs ls X Wd L Y) (fun h => kf h E p l e R s m args below meth c A H locs ls X Wd L Y)
theorem hg_if_lt {x : Int32} {off : Int} {tgt : Nat} (hd : decode I.1 pc = .ok (.ifCond .lt off, 3)) (ht : (pc : Int) + off = (tgt : Int)) (kt : x < 0 → GS bS LS xS I mc ms Q k n tgt pl st M z) (kf : ¬ x < 0 → GS bS LS xS I mc ms Q k n (pc + 3) pl st M z) : GS bS LS xS I mc ms Q k n pc pl (.int x :: st) M z := by
  intro E p l e R s m args below meth c A H locs ls X Wd L Y
  exact lv_if_lt X.1 X.2.1 hd ht (fun h => kt h E p l e R s m args below meth c A H locs ls X Wd L Y) (fun h => kf h E p l e R s m args below meth c A H locs ls X Wd L Y)
theorem hg_if_ge {x : Int32} {off : Int} {tgt : Nat} (hd : decode I.1 pc = .ok (.ifCond .ge off, 3)) (ht : (pc : Int) + off = (tgt : Int)) (kt : 0 ≤ x → GS bS LS xS I mc ms Q k n tgt pl st M z) (kf : ¬ 0 ≤ x → GS bS LS xS I mc ms Q k n (pc + 3) pl st M z) : GS bS LS xS I mc ms Q k n pc pl (.int x :: st) M z := by
  intro E p l e R s m args below meth c A H locs ls X Wd L Y
  exact lv_if_ge X.1 X.2.1 hd ht (fun h => kt h E p l e R s m args below meth c A H locs ls X Wd L Y) (fun h => kf h E p l e R s m args below meth c A H locs ls X Wd L Y)
theorem hg_if_gt {x : Int32} {off : Int} {tgt : Nat} (hd : decode I.1 pc = .ok (.ifCond .gt off, 3)) (ht : (pc : Int) + off = (tgt : Int)) (kt : 0 < x → GS bS LS xS I mc ms Q k n tgt pl st M z) (kf : ¬ 0 < x → GS bS LS xS I mc ms Q k n (pc + 3) pl st M z) : GS bS LS xS I mc ms Q k n pc pl (.int x :: st) M z := by
  intro E p l e R s m args below meth c A H locs ls X Wd L Y
  exact lv_if_gt X.1 X.2.1 hd ht (fun h => kt h E p l e R s m args below meth c A H locs ls X Wd L Y) (fun h => kf h E p l e R s m args below meth c A H locs ls X Wd L Y)
theorem hg_icmp_eq {x y : Int32} {off : Int} {tgt : Nat} (hd : decode I.1 pc = .ok (.if_icmp .eq off, 3)) (ht : (pc : Int) + off = (tgt : Int)) (kt : x = y → GS bS LS xS I mc ms Q k n tgt pl st M z) (kf : ¬ x = y → GS bS LS xS I mc ms Q k n (pc + 3) pl st M z) : GS bS LS xS I mc ms Q k n pc pl (.int y :: .int x :: st) M z := by
  intro E p l e R s m args below meth c A H locs ls X Wd L Y
  exact lv_icmp_eq X.1 X.2.1 hd ht (fun h => kt h E p l e R s m args below meth c A H locs ls X Wd L Y) (fun h => kf h E p l e R s m args below meth c A H locs ls X Wd L Y)
theorem hg_icmp_ne {x y : Int32} {off : Int} {tgt : Nat} (hd : decode I.1 pc = .ok (.if_icmp .ne off, 3)) (ht : (pc : Int) + off = (tgt : Int)) (kt : ¬ x = y → GS bS LS xS I mc ms Q k n tgt pl st M z) (kf : x = y → GS bS LS xS I mc ms Q k n (pc + 3) pl st M z) : GS bS LS xS I mc ms Q k n pc pl (.int y :: .int x :: st) M z := by
  intro E p l e R s m args below meth c A H locs ls X Wd L Y
  exact lv_icmp_ne X.1 X.2.1 hd ht (fun h => kt h E p l e R s m args below meth c A H locs ls X Wd L Y) (fun h => kf h E p l e R s m args below meth c A H locs ls X Wd L Y)
theorem hg_icmp_ge {x y : Int32} {off : Int} {tgt : Nat} (hd : decode I.1 pc = .ok (.if_icmp .ge off, 3)) (ht : (pc : Int) + off = (tgt : Int)) (kt : y ≤ x → GS bS LS xS I mc ms Q k n tgt pl st M z) (kf : ¬ y ≤ x → GS bS LS xS I mc ms Q k n (pc + 3) pl st M z) : GS bS LS xS I mc ms Q k n pc pl (.int y :: .int x :: st) M z := by
  intro E p l e R s m args below meth c A H locs ls X Wd L Y
  exact lv_icmp_ge X.1 X.2.1 hd ht (fun h => kt h E p l e R s m args below meth c A H locs ls X Wd L Y) (fun h => kf h E p l e R s m args below meth c A H locs ls X Wd L Y)
theorem hg_icmp_gt {x y : Int32} {off : Int} {tgt : Nat} (hd : decode I.1 pc = .ok (.if_icmp .gt off, 3)) (ht : (pc : Int) + off = (tgt : Int)) (kt : y < x → GS bS LS xS I mc ms Q k n tgt pl st M z) (kf : ¬ y < x → GS bS LS xS I mc ms Q k n (pc + 3) pl st M z) : GS bS LS xS I mc ms Q k n pc pl (.int y :: .int x :: st) M z := by
  intro E p l e R s m args below meth c A H locs ls X Wd L Y
  exact lv_icmp_gt X.1 X.2.1 hd ht (fun h => kt h E p l e R s m args below meth c A H locs ls X Wd L Y) (fun h => kf h E p l e R s m args below meth c A H locs ls X Wd L Y)
theorem hg_icmp_lt {x y : Int32} {off : Int} {tgt : Nat} (hd : decode I.1 pc = .ok (.if_icmp .lt off, 3)) (ht : (pc : Int) + off = (tgt : Int)) (kt : x < y → GS bS LS xS I mc ms Q k n tgt pl st M z) (kf : ¬ x < y → GS bS LS xS I mc ms Q k n (pc + 3) pl st M z) : GS bS LS xS I mc ms Q k n pc pl (.int y :: .int x :: st) M z := by
  intro E p l e R s m args below meth c A H locs ls X Wd L Y
  exact lv_icmp_lt X.1 X.2.1 hd ht (fun h => kt h E p l e R s m args below meth c A H locs ls X Wd L Y) (fun h => kf h E p l e R s m args below meth c A H locs ls X Wd L Y)
theorem hg_icmp_le {x y : Int32} {off : Int} {tgt : Nat} (hd : decode I.1 pc = .ok (.if_icmp .le off, 3)) (ht : (pc : Int) + off = (tgt : Int)) (kt : x ≤ y → GS bS LS xS I mc ms Q k n tgt pl st M z) (kf : ¬ x ≤ y → GS bS LS xS I mc ms Q k n (pc + 3) pl st M z) : GS bS LS xS I mc ms Q k n pc pl (.int y :: .int x :: st) M z := by
  intro E p l e R s m args below meth c A H locs ls X Wd L Y
  exact lv_icmp_le X.1 X.2.1 hd ht (fun h => kt h E p l e R s m args below meth c A H locs ls X Wd L Y) (fun h => kf h E p l e R s m args below meth c A H locs ls X Wd L Y)
theorem hg_goto {off : Int} {tgt : Nat} (hd : decode I.1 pc = .ok (.goto off, 3)) (ht : (pc : Int) + off = (tgt : Int)) (K : GS bS LS xS I mc ms Q k n tgt pl st M z) : GS bS LS xS I mc ms Q k n pc pl st M z := by
  intro E p l e R s m args below meth c A H locs ls X Wd L Y
  exact lv_goto X.1 X.2.1 hd ht (K E p l e R s m args below meth c A H locs ls X Wd L Y)
theorem hg_ldc {i : Nat} {v : Int32} (hd : decode I.1 pc = .ok (.ldc i, 2)) (hc : Cond.constant I.2.2.2.1 i v ∈ TBL) (K : GS bS LS xS I mc ms Q k n (pc + 2) pl (.int v :: st) M z) : GS bS LS xS I mc ms Q k n pc pl st M z := by
  intro E p l e R s m args below meth c A H locs ls X Wd L Y
  exact lv_ldc X.1 X.2.1 X.2.2.2.1 (X.2.2.2.2.1 _ hc) hd (K E p l e R s m args below meth c A H locs ls X Wd L Y)
theorem hg_ireturn {v : Int32} (hd : decode I.1 pc = .ok (.ireturn, 1)) (hr : I.2.2.1 = some .int)  (hk : k ≤ mc) (hn : n ≤ ms) (hQ : Q M z (some (.int v))) : GS bS LS xS I mc ms Q k n pc pl [.int v] M z := by
  intro E p l e R s m args below meth c A H locs ls X Wd L Y
  obtain ⟨h1, h2, h3, h4, h5⟩ := Wd
  refine W.widen hk hn ?_
  exact W.iret (v := v) X.1 X.2.1 (X.2.2.2.2.2.2.1.trans hr) (fun t ht hW => ⟨⟨some (.int v), M, rfl, by rw [ht, h2]; exact hQ, by rw [ht]; exact h1, h4⟩, h3.F ht⟩) h3.2.2 hd X.2.2.2.2.2.1
theorem hg_zreturn {v : Int32} (hd : decode I.1 pc = .ok (.ireturn, 1)) (hr : I.2.2.1 = some .boolean) (hv : narrow .boolean (.int v) = .int v) (hk : k ≤ mc) (hn : n ≤ ms) (hQ : Q M z (some (.int v))) : GS bS LS xS I mc ms Q k n pc pl [.int v] M z := by
  intro E p l e R s m args below meth c A H locs ls X Wd L Y
  obtain ⟨h1, h2, h3, h4, h5⟩ := Wd
  refine W.widen hk hn ?_
  exact W.zret (v := v) X.1 X.2.1 (X.2.2.2.2.2.2.1.trans hr) hv (fun t ht hW => ⟨⟨some (.int v), M, rfl, by rw [ht, h2]; exact hQ, by rw [ht]; exact h1, h4⟩, h3.F ht⟩) h3.2.2 hd X.2.2.2.2.2.1
theorem hg_new {idx ci : Nat} {C : String} {T : u_T} {N : Nat} {ty : Nat → FieldType} {fs : List Value} (hc : CIs ci C T N ty) (hl : Cond.classLink I.2.2.2.1 idx C ∈ TBL ∧ Cond.instantiable C N ∈ TBL ∧ Cond.initialized C ∈ TBL) (hd : decode I.1 pc = .ok (.new idx, 3)) (hfs : ∀ j, j < N → defaultValue (ty j) = vp_V fs j) (hk : k + 1 ≤ mc) (hn : n + N ≤ ms) (K : M z = none → GS bS LS xS I mc ms Q (k + 1) (n + N) (pc + 3) pl (.ref z :: st) (pU M z (.inr (ci, fs))) (z + 1)) : GS bS LS xS I mc ms Q k n pc pl st M z := by
  intro E p l e R s m args below meth c A H locs ls X Wd L Y
  have hts := X.2.2.2.2.1
  have hKn := X.2.2.2.2.2.2.2.2.2.1.1 ci _ hc.1
  have hR : R = pR I mc ms := X.2.2.2.2.2.2.2.2.1
  have hnone : M z = none := by
    cases hz : M z with
    | none => rfl
    | some e0 => exact absurd (Wd.1.lt hz) (by rw [Wd.2.1]; omega)
  refine W.newcK X.1 X.2.1 X.2.2.2.1 (hts _ hl.1) (hts _ hl.2.1) (hts _ hl.2.2) rfl hd (by rw [hR]; exact hk) (by rw [hR]; exact hn) hKn.2.1 Wd.2.1 fun H1 kC hkC e1 z1 o1 => ?_
  exact K hnone E p l e R s m args below meth c A H1 locs ls X (Wd.new (e := .inr (ci, fs)) ⟨_, hc.1, (u_born ty hts hc.2.1 hKn hkC e1 hc.2.2.1).to hfs⟩ z1 o1) L Y
theorem hg_callV {J : MI} {y : MethodName} {idx nA b ci mc' ms' : Nat} {As rest fs : List Value} {T : u_T} {N : Nat} {Q' : pM → Nat → Option Value → Prop} (hd : decode I.1 pc = .ok (.invokevirtual idx, 3)) (lm : LkM I.2.2.2.1 idx y) (lk : LkV y J nA) (hC : C J y (.ref b :: As) M z mc' ms' Q') (hst : st = As.reverse ++ .ref b :: rest) (hn : As.length = nA) (hM : M b = some (.inr (ci, fs))) (hci : classes[ci]? = some (y.cls, T, N)) (hroom : pRoom I J) (hW : (rest.map fun v => v.category).sum ≤ 8) (hk : k + mc' ≤ mc) (hs : n + ms' ≤ ms)
    (K : ∀ M' z' r, Q' M' z' r → GS bS LS xS I mc ms Q (k + mc') (n + ms') (pc + 3) pl (r.toList ++ rest) M' z') : GS bS LS xS I mc ms Q k n pc pl st M z := by
  intro E p l e R s m args below meth c A H locs ls X Wd L Y
  have hts := X.2.2.2.2.1
  have hKv := X.2.2.2.2.2.2.2.2.2
  have hR : R = pR I mc ms := X.2.2.2.2.2.2.2.2.1
  have hrec := va_recv (D := E.1) (cl := classes) hKv.1 (Wd.1.one hM) (ci := ci) (q0 := 0) hci rfl
  have hpre : PreV s H y.cls b (va_Pc (.ref b :: As) (fun U => U.heap.size = z ∧ pH E M U.heap ∧ pK E U)) As := ⟨blind, hrec, fun U hU hW => ⟨rfl, by rw [hU]; exact Wd.2.1, by rw [hU]; exact Wd.1, hKv.moved hW⟩⟩
  have hcb : (pR J mc' ms').frames + 1 ≤ R.frames ∧ 8 + (J.2.1 + 11) + (pR J mc' ms').locals ≤ R.locals := by rw [hR]; exact hroom
  have hf : k + mc' ≤ R.cells ∧ n + ms' ≤ R.slots := by rw [hR]; exact ⟨hk, hs⟩
  rcases lm with lm | ⟨host, lm⟩
  · refine pCall (va_runV (As := As) (rest := rest) ⟨X.1, X.2.1, X.2.2.1, X.2.2.2.1, hts⟩ (hC l E) ⟨callB_of nA hts (TBL_sub lk.1) rfl rfl rfl (hts _ lk.1.2.1) (hts _ lm) lk.1.2.2.1 hcb, hts _ lk.2.1, hts _ lk.2.2⟩ hpre rfl hn L.2.1 hst (lv_room hW) hd hf) Wd ?_
    exact fun r M' z' H1 locs1 hq hw => K M' z' r hq E p l e R s m args below meth c A H1 locs1 ls X hw L Y
  · refine pCall (va_runVN (As := As) (rest := rest) ⟨X.1, X.2.1, X.2.2.1, X.2.2.2.1, hts⟩ (hC l E) ⟨va_cnB nA hts (TBL_sub lk.1) rfl rfl rfl (hKv.2.1 _ lm rfl) (hts _ lk.1.2.1) lk.1.2.2.1 hcb, hts _ lk.2.1, hts _ lk.2.2⟩ hpre rfl hn L.2.1 hst (lv_room hW) hd hf) Wd ?_
    exact fun r M' z' H1 locs1 hq hw => K M' z' r hq E p l e R s m args below meth c A H1 locs1 ls X hw L Y
theorem hg_callS {J : MI} {y : MethodName} {idx nA mc' ms' : Nat} {As rest : List Value} {Q' : pM → Nat → Option Value → Prop} (hd : decode I.1 pc = .ok (.invokestatic idx, 3)) (lm : LkM I.2.2.2.1 idx y) (lk : LkS y J nA) (hC : C J y As M z mc' ms' Q') (hst : st = As.reverse ++ rest) (hn : As.length = nA) (hroom : pRoom I J) (hW : (rest.map fun v => v.category).sum ≤ 8) (hk : k + mc' ≤ mc) (hs : n + ms' ≤ ms)
    (K : ∀ M' z' r, Q' M' z' r → GS bS LS xS I mc ms Q (k + mc') (n + ms') (pc + 3) pl (r.toList ++ rest) M' z') : GS bS LS xS I mc ms Q k n pc pl st M z := by
  intro E p l e R s m args below meth c A H locs ls X Wd L Y
  have hts := X.2.2.2.2.1
  have hKv := X.2.2.2.2.2.2.2.2.2
  have hR : R = pR I mc ms := X.2.2.2.2.2.2.2.2.1
  have hpre : PreS s H (va_Pc As (fun U => U.heap.size = z ∧ pH E M U.heap ∧ pK E U)) As := ⟨blind, fun U hU hW => ⟨rfl, by rw [hU]; exact Wd.2.1, by rw [hU]; exact Wd.1, hKv.moved hW⟩⟩
  have hcb : (pR J mc' ms').frames + 1 ≤ R.frames ∧ 8 + (J.2.1 + 11) + (pR J mc' ms').locals ≤ R.locals := by rw [hR]; exact hroom
  have hf : k + mc' ≤ R.cells ∧ n + ms' ≤ R.slots := by rw [hR]; exact ⟨hk, hs⟩
  rcases lm with lm | ⟨host, lm⟩
  · refine pCall (va_runS (As := As) (rest := rest) ⟨X.1, X.2.1, X.2.2.1, X.2.2.2.1, hts⟩ (hC l E) ⟨callB_of nA hts (TBL_sub lk.1) rfl rfl rfl (hts _ lk.1.2.1) (hts _ lm) lk.1.2.2.1 hcb, hts _ lk.2⟩ hpre rfl hn L.2.1 hst (lv_room hW) hd hf) Wd ?_
    exact fun r M' z' H1 locs1 hq hw => K M' z' r hq E p l e R s m args below meth c A H1 locs1 ls X hw L Y
  · refine pCall (va_runSN (As := As) (rest := rest) ⟨X.1, X.2.1, X.2.2.1, X.2.2.2.1, hts⟩ (hC l E) ⟨va_cnB nA hts (TBL_sub lk.1) rfl rfl rfl (hKv.2.1 _ lm rfl) (hts _ lk.1.2.1) lk.1.2.2.1 hcb, hts _ lk.2, trivial⟩ hpre rfl hn L.2.1 hst (lv_room hW) hd hf) Wd ?_
    exact fun r M' z' H1 locs1 hq hw => K M' z' r hq E p l e R s m args below meth c A H1 locs1 ls X hw L Y
theorem hg_callI {J : MI} {y : MethodName} {idx nA b mc' ms' : Nat} {As rest : List Value} {Q' : pM → Nat → Option Value → Prop} (hd : decode I.1 pc = .ok (.invokespecial idx, 3)) (lm : LkM I.2.2.2.1 idx y) (lk : LkI y J nA) (hC : C J y (.ref b :: As) M z mc' ms' Q') (hst : st = As.reverse ++ .ref b :: rest) (hn : As.length = nA) (hroom : pRoom I J) (hW : (rest.map fun v => v.category).sum ≤ 8) (hk : k + mc' ≤ mc) (hs : n + ms' ≤ ms)
    (K : ∀ M' z' r, Q' M' z' r → GS bS LS xS I mc ms Q (k + mc') (n + ms') (pc + 3) pl (r.toList ++ rest) M' z') : GS bS LS xS I mc ms Q k n pc pl st M z := by
  intro E p l e R s m args below meth c A H locs ls X Wd L Y
  have hts := X.2.2.2.2.1
  have hKv := X.2.2.2.2.2.2.2.2.2
  have hR : R = pR I mc ms := X.2.2.2.2.2.2.2.2.1
  have hpre : PreS s H (va_Pc (.ref b :: As) (fun U => U.heap.size = z ∧ pH E M U.heap ∧ pK E U)) (.ref b :: As) := ⟨blind, fun U hU hW => ⟨rfl, by rw [hU]; exact Wd.2.1, by rw [hU]; exact Wd.1, hKv.moved hW⟩⟩
  have hcb : (pR J mc' ms').frames + 1 ≤ R.frames ∧ 8 + (J.2.1 + 11) + (pR J mc' ms').locals ≤ R.locals := by rw [hR]; exact hroom
  have hf : k + mc' ≤ R.cells ∧ n + ms' ≤ R.slots := by rw [hR]; exact ⟨hk, hs⟩
  have hM := hC l E
  have hB := lk.1
  obtain ⟨J1, J2, J3, J4⟩ := J
  obtain ⟨-, hin, hnm, hret⟩ := lk
  have hret : J3 = none := hret
  subst hret
  rcases lm with lm | ⟨host, lm⟩
  · refine pCall (va_runI (As := As) (rest := rest) ⟨X.1, X.2.1, X.2.2.1, X.2.2.2.1, hts⟩ hM ⟨callB_of nA hts (TBL_sub hB) rfl rfl rfl (hts _ hB.2.1) (hts _ lm) hB.2.2.1 hcb, hnm, hts _ hin⟩ hpre rfl hn L.2.1 hst (lv_room hW) hd hf) Wd ?_
    exact fun r M' z' H1 locs1 hq hw => K M' z' r hq E p l e R s m args below meth c A H1 locs1 ls X hw L Y
  · refine pCall (va_runIN (As := As) (rest := rest) ⟨X.1, X.2.1, X.2.2.1, X.2.2.2.1, hts⟩ hM ⟨va_cnB nA hts (TBL_sub hB) rfl rfl rfl (hKv.2.1 _ lm rfl) (hts _ hB.2.1) hB.2.2.1 hcb, hnm, hts _ hin⟩ hpre rfl hn L.2.1 hst (lv_room hW) hd hf) Wd ?_
    exact fun r M' z' H1 locs1 hq hw => K M' z' r hq E p l e R s m args below meth c A H1 locs1 ls X hw L Y
theorem GS.top {v v' : Value} (h : v = v') (K : GS bS LS xS I mc ms Q k n pc pl (v' :: st) M z) : GS bS LS xS I mc ms Q k n pc pl (v :: st) M z := by rw [h]; exact K
theorem hz_iconst {c0 : Int} (hd : decode I.1 pc = .ok (.iconst c0, 1)) (K : GS bS LS xS I mc ms Q k n (pc + 1) pl (vI c0 :: st) M z) : GS bS LS xS I mc ms Q k n pc pl st M z := hg_iconst hd rfl K
theorem hz_bipush {c0 : Int} (hd : decode I.1 pc = .ok (.bipush c0, 2)) (hv : (Int8.ofInt c0).toInt32 = iZ c0) (K : GS bS LS xS I mc ms Q k n (pc + 2) pl (vI c0 :: st) M z) : GS bS LS xS I mc ms Q k n pc pl st M z := hg_bipush hd hv K
theorem hz_sipush {c0 : Int} (hd : decode I.1 pc = .ok (.sipush c0, 3)) (hv : (Int16.ofInt c0).toInt32 = iZ c0) (K : GS bS LS xS I mc ms Q k n (pc + 3) pl (vI c0 :: st) M z) : GS bS LS xS I mc ms Q k n pc pl st M z := hg_sipush hd hv K
theorem hz_iadd {a b : Int} (hd : decode I.1 pc = .ok (.iadd, 1)) (K : GS bS LS xS I mc ms Q k n (pc + 1) pl (vI (a + b) :: st) M z) : GS bS LS xS I mc ms Q k n pc pl (vI b :: vI a :: st) M z := hg_iadd hd (by rw [iZ_add]; exact K)
theorem hz_isub {a b : Int} (hd : decode I.1 pc = .ok (.isub, 1)) (K : GS bS LS xS I mc ms Q k n (pc + 1) pl (vI (a - b) :: st) M z) : GS bS LS xS I mc ms Q k n pc pl (vI b :: vI a :: st) M z := hg_isub hd (by rw [iZ_sub]; exact K)
theorem hz_imul {a b : Int} (hd : decode I.1 pc = .ok (.imul, 1)) (K : GS bS LS xS I mc ms Q k n (pc + 1) pl (vI (a * b) :: st) M z) : GS bS LS xS I mc ms Q k n pc pl (vI b :: vI a :: st) M z := hg_imul hd (by rw [iZ_mul]; exact K)
theorem hz_iinc {i : Nat} {c0 a : Int} (hd : decode I.1 pc = .ok (.iinc i c0, 3)) (hl : pl[i]? = some (some (vI a))) (hn : i < I.2.1) (K : GS bS LS xS I mc ms Q k n (pc + 3) (s1 pl i (vI (a + c0))) st M z) : GS bS LS xS I mc ms Q k n pc pl st M z := hg_iinc hd hl (iZ_add a c0) hn K
theorem hz_ldc {i : Nat} {v : Int32} (a : Int) (hd : decode I.1 pc = .ok (.ldc i, 2)) (hc : Cond.constant I.2.2.2.1 i v ∈ TBL) (hv : v = iZ a) (K : GS bS LS xS I mc ms Q k n (pc + 2) pl (vI a :: st) M z) : GS bS LS xS I mc ms Q k n pc pl st M z := hg_ldc hd hc (by rw [hv]; exact K)
theorem hz_if_eq {a : Int} {off : Int} {tgt : Nat} (hd : decode I.1 pc = .ok (.ifCond .eq off, 3)) (ht : (pc : Int) + off = (tgt : Int)) (ha : -2147483648 ≤ a ∧ a < 2147483648) (kt : a = 0 → GS bS LS xS I mc ms Q k n tgt pl st M z) (kf : a ≠ 0 → GS bS LS xS I mc ms Q k n (pc + 3) pl st M z) : GS bS LS xS I mc ms Q k n pc pl (vI a :: st) M z := hg_if_eq hd ht (fun h => kt (((iZ_eq (a := a) (b := 0) ha (by omega))).mp h)) (fun h => kf (by have := mt ((iZ_eq (a := a) (b := 0) ha (by omega))).mpr h; omega))
theorem hz_if_ne {a : Int} {off : Int} {tgt : Nat} (hd : decode I.1 pc = .ok (.ifCond .ne off, 3)) (ht : (pc : Int) + off = (tgt : Int)) (ha : -2147483648 ≤ a ∧ a < 2147483648) (kt : a ≠ 0 → GS bS LS xS I mc ms Q k n tgt pl st M z) (kf : a = 0 → GS bS LS xS I mc ms Q k n (pc + 3) pl st M z) : GS bS LS xS I mc ms Q k n pc pl (vI a :: st) M z := hg_if_ne hd ht (fun h => kt (fun q => h (((iZ_eq (a := a) (b := 0) ha (by omega))).mpr q))) (fun h => kf (((iZ_eq (a := a) (b := 0) ha (by omega))).mp h))
theorem hz_if_lt {a : Int} {off : Int} {tgt : Nat} (hd : decode I.1 pc = .ok (.ifCond .lt off, 3)) (ht : (pc : Int) + off = (tgt : Int)) (ha : -2147483648 ≤ a ∧ a < 2147483648) (kt : a < 0 → GS bS LS xS I mc ms Q k n tgt pl st M z) (kf : 0 ≤ a → GS bS LS xS I mc ms Q k n (pc + 3) pl st M z) : GS bS LS xS I mc ms Q k n pc pl (vI a :: st) M z := hg_if_lt hd ht (fun h => kt (((iZ_lt (a := a) (b := 0) ha (by omega))).mp h)) (fun h => kf (by have := mt ((iZ_lt (a := a) (b := 0) ha (by omega))).mpr h; omega))
theorem hz_if_ge {a : Int} {off : Int} {tgt : Nat} (hd : decode I.1 pc = .ok (.ifCond .ge off, 3)) (ht : (pc : Int) + off = (tgt : Int)) (ha : -2147483648 ≤ a ∧ a < 2147483648) (kt : 0 ≤ a → GS bS LS xS I mc ms Q k n tgt pl st M z) (kf : a < 0 → GS bS LS xS I mc ms Q k n (pc + 3) pl st M z) : GS bS LS xS I mc ms Q k n pc pl (vI a :: st) M z := hg_if_ge hd ht (fun h => kt (((iZ_le (a := 0) (b := a) (by omega) ha)).mp h)) (fun h => kf (by have := mt ((iZ_le (a := 0) (b := a) (by omega) ha)).mpr h; omega))
theorem hz_if_gt {a : Int} {off : Int} {tgt : Nat} (hd : decode I.1 pc = .ok (.ifCond .gt off, 3)) (ht : (pc : Int) + off = (tgt : Int)) (ha : -2147483648 ≤ a ∧ a < 2147483648) (kt : 0 < a → GS bS LS xS I mc ms Q k n tgt pl st M z) (kf : a ≤ 0 → GS bS LS xS I mc ms Q k n (pc + 3) pl st M z) : GS bS LS xS I mc ms Q k n pc pl (vI a :: st) M z := hg_if_gt hd ht (fun h => kt (((iZ_lt (a := 0) (b := a) (by omega) ha)).mp h)) (fun h => kf (by have := mt ((iZ_lt (a := 0) (b := a) (by omega) ha)).mpr h; omega))
theorem hz_icmp_eq {a b : Int} {off : Int} {tgt : Nat} (hd : decode I.1 pc = .ok (.if_icmp .eq off, 3)) (ht : (pc : Int) + off = (tgt : Int)) (ha : -2147483648 ≤ a ∧ a < 2147483648) (hb : -2147483648 ≤ b ∧ b < 2147483648) (kt : a = b → GS bS LS xS I mc ms Q k n tgt pl st M z) (kf : a ≠ b → GS bS LS xS I mc ms Q k n (pc + 3) pl st M z) : GS bS LS xS I mc ms Q k n pc pl (vI b :: vI a :: st) M z := hg_icmp_eq hd ht (fun h => kt ((iZ_eq ha hb).mp h)) (fun h => kf (by have := mt (iZ_eq ha hb).mpr h; omega))
theorem hz_icmp_ne {a b : Int} {off : Int} {tgt : Nat} (hd : decode I.1 pc = .ok (.if_icmp .ne off, 3)) (ht : (pc : Int) + off = (tgt : Int)) (ha : -2147483648 ≤ a ∧ a < 2147483648) (hb : -2147483648 ≤ b ∧ b < 2147483648) (kt : a ≠ b → GS bS LS xS I mc ms Q k n tgt pl st M z) (kf : a = b → GS bS LS xS I mc ms Q k n (pc + 3) pl st M z) : GS bS LS xS I mc ms Q k n pc pl (vI b :: vI a :: st) M z := hg_icmp_ne hd ht (fun h => kt (fun q => h ((iZ_eq ha hb).mpr q))) (fun h => kf ((iZ_eq ha hb).mp h))
theorem hz_icmp_ge {a b : Int} {off : Int} {tgt : Nat} (hd : decode I.1 pc = .ok (.if_icmp .ge off, 3)) (ht : (pc : Int) + off = (tgt : Int)) (ha : -2147483648 ≤ a ∧ a < 2147483648) (hb : -2147483648 ≤ b ∧ b < 2147483648) (kt : b ≤ a → GS bS LS xS I mc ms Q k n tgt pl st M z) (kf : a < b → GS bS LS xS I mc ms Q k n (pc + 3) pl st M z) : GS bS LS xS I mc ms Q k n pc pl (vI b :: vI a :: st) M z := hg_icmp_ge hd ht (fun h => kt ((iZ_le hb ha).mp h)) (fun h => kf (by have := mt (iZ_le hb ha).mpr h; omega))
theorem hz_icmp_gt {a b : Int} {off : Int} {tgt : Nat} (hd : decode I.1 pc = .ok (.if_icmp .gt off, 3)) (ht : (pc : Int) + off = (tgt : Int)) (ha : -2147483648 ≤ a ∧ a < 2147483648) (hb : -2147483648 ≤ b ∧ b < 2147483648) (kt : b < a → GS bS LS xS I mc ms Q k n tgt pl st M z) (kf : a ≤ b → GS bS LS xS I mc ms Q k n (pc + 3) pl st M z) : GS bS LS xS I mc ms Q k n pc pl (vI b :: vI a :: st) M z := hg_icmp_gt hd ht (fun h => kt ((iZ_lt hb ha).mp h)) (fun h => kf (by have := mt (iZ_lt hb ha).mpr h; omega))
theorem hz_icmp_lt {a b : Int} {off : Int} {tgt : Nat} (hd : decode I.1 pc = .ok (.if_icmp .lt off, 3)) (ht : (pc : Int) + off = (tgt : Int)) (ha : -2147483648 ≤ a ∧ a < 2147483648) (hb : -2147483648 ≤ b ∧ b < 2147483648) (kt : a < b → GS bS LS xS I mc ms Q k n tgt pl st M z) (kf : b ≤ a → GS bS LS xS I mc ms Q k n (pc + 3) pl st M z) : GS bS LS xS I mc ms Q k n pc pl (vI b :: vI a :: st) M z := hg_icmp_lt hd ht (fun h => kt ((iZ_lt ha hb).mp h)) (fun h => kf (by have := mt (iZ_lt ha hb).mpr h; omega))
theorem hz_icmp_le {a b : Int} {off : Int} {tgt : Nat} (hd : decode I.1 pc = .ok (.if_icmp .le off, 3)) (ht : (pc : Int) + off = (tgt : Int)) (ha : -2147483648 ≤ a ∧ a < 2147483648) (hb : -2147483648 ≤ b ∧ b < 2147483648) (kt : a ≤ b → GS bS LS xS I mc ms Q k n tgt pl st M z) (kf : b < a → GS bS LS xS I mc ms Q k n (pc + 3) pl st M z) : GS bS LS xS I mc ms Q k n pc pl (vI b :: vI a :: st) M z := hg_icmp_le hd ht (fun h => kt ((iZ_le ha hb).mp h)) (fun h => kf (by have := mt (iZ_le ha hb).mpr h; omega))
theorem hz_new {idx ci : Nat} {C : String} {T : u_T} {N : Nat} {ty : Nat → FieldType} {fs : List Value} (hc : CIs ci C T N ty) (hl : Cond.classLink I.2.2.2.1 idx C ∈ TBL ∧ Cond.instantiable C N ∈ TBL ∧ Cond.initialized C ∈ TBL) (hd : decode I.1 pc = .ok (.new idx, 3)) (hfs : ∀ j, j < N → defaultValue (ty j) = vp_V fs j) (hk : k + 1 ≤ mc) (hn : n + N ≤ ms) (K : ∀ M' : pM, M z = none → M' z = some (ob ci fs) → (∀ x, x ≠ z → M' x = M x) → GS bS LS xS I mc ms Q (k + 1) (n + N) (pc + 3) pl (.ref z :: st) M' (z + 1)) : GS bS LS xS I mc ms Q k n pc pl st M z := hg_new hc hl hd hfs hk hn (fun h => K _ h pU_same (fun x h => pU_ne h))
theorem hz_callVV {J : MI} {y : MethodName} {idx nA b ci : Nat} {As rest fs : List Value} {T : u_T} {N : Nat} {P : pM → Option Value → Prop} (hd : decode I.1 pc = .ok (.invokevirtual idx, 3)) (lm : LkM I.2.2.2.1 idx y) (lk : LkV y J nA) (hC : CW J y (.ref b :: As) M z P) (hst : st = As.reverse ++ .ref b :: rest) (hn : As.length = nA) (hM : M b = some (ob ci fs)) (hci : classes[ci]? = some (y.cls, T, N)) (hroom : pRoom I J) (hW : (rest.map fun v => v.category).sum ≤ 8) (hk : k ≤ mc) (hs : n ≤ ms) (K : ∀ M' r, P M' r → GS bS LS xS I mc ms Q k n (pc + 3) pl (r.toList ++ rest) M' z) : GS bS LS xS I mc ms Q k n pc pl st M z :=
  hg_callV hd lm lk hC hst hn hM hci hroom hW hk hs (fun M' z' r h => by obtain ⟨rfl, h⟩ := h; exact K M' r h)
theorem hz_callVR {J : MI} {y : MethodName} {idx nA b ci : Nat} {As rest fs : List Value} {T : u_T} {N : Nat} {v : Value} (hd : decode I.1 pc = .ok (.invokevirtual idx, 3)) (lm : LkM I.2.2.2.1 idx y) (lk : LkV y J nA) (hC : CR J y (.ref b :: As) M z (some v)) (hst : st = As.reverse ++ .ref b :: rest) (hn : As.length = nA) (hM : M b = some (ob ci fs)) (hci : classes[ci]? = some (y.cls, T, N)) (hroom : pRoom I J) (hW : (rest.map fun v => v.category).sum ≤ 8) (hk : k ≤ mc) (hs : n ≤ ms) (K : GS bS LS xS I mc ms Q k n (pc + 3) pl (v :: rest) M z) : GS bS LS xS I mc ms Q k n pc pl st M z :=
  hg_callV hd lm lk hC hst hn hM hci hroom hW hk hs (fun M' z' r h => by obtain ⟨rfl, rfl, rfl⟩ := h; exact K)
theorem hz_callSV {J : MI} {y : MethodName} {idx nA : Nat} {As rest : List Value} {P : pM → Option Value → Prop} (hd : decode I.1 pc = .ok (.invokestatic idx, 3)) (lm : LkM I.2.2.2.1 idx y) (lk : LkS y J nA) (hC : CW J y As M z P) (hst : st = As.reverse ++ rest) (hn : As.length = nA) (hroom : pRoom I J) (hW : (rest.map fun v => v.category).sum ≤ 8) (hk : k ≤ mc) (hs : n ≤ ms) (K : ∀ M' r, P M' r → GS bS LS xS I mc ms Q k n (pc + 3) pl (r.toList ++ rest) M' z) : GS bS LS xS I mc ms Q k n pc pl st M z :=
  hg_callS hd lm lk hC hst hn hroom hW hk hs (fun M' z' r h => by obtain ⟨rfl, h⟩ := h; exact K M' r h)
theorem hz_callSR {J : MI} {y : MethodName} {idx nA : Nat} {As rest : List Value} {v : Value} (hd : decode I.1 pc = .ok (.invokestatic idx, 3)) (lm : LkM I.2.2.2.1 idx y) (lk : LkS y J nA) (hC : CR J y As M z (some v)) (hst : st = As.reverse ++ rest) (hn : As.length = nA) (hroom : pRoom I J) (hW : (rest.map fun v => v.category).sum ≤ 8) (hk : k ≤ mc) (hs : n ≤ ms) (K : GS bS LS xS I mc ms Q k n (pc + 3) pl (v :: rest) M z) : GS bS LS xS I mc ms Q k n pc pl st M z :=
  hg_callS hd lm lk hC hst hn hroom hW hk hs (fun M' z' r h => by obtain ⟨rfl, rfl, rfl⟩ := h; exact K)
theorem hz_callN {J : MI} {y : MethodName} {idx nA b mc' ms' : Nat} {As rest : List Value} {P : pM → Prop} (hd : decode I.1 pc = .ok (.invokespecial idx, 3)) (lm : LkM I.2.2.2.1 idx y) (lk : LkI y J nA) (hC : CN J y b As mc' ms' M P) (hst : st = As.reverse ++ .ref b :: rest) (hn : As.length = nA) (hroom : pRoom I J) (hW : (rest.map fun v => v.category).sum ≤ 8) (hk : k + mc' ≤ mc) (hs : n + ms' ≤ ms) (hz : z = b + 1) (K : ∀ M', P M' → Off M M' b (b + 1 + mc') → GS bS LS xS I mc ms Q (k + mc') (n + ms') (pc + 3) pl rest M' (b + 1 + mc')) : GS bS LS xS I mc ms Q k n pc pl st M z := by
  subst hz
  exact hg_callI hd lm lk hC hst hn hroom hW hk hs (fun M' z' r h => by obtain ⟨rfl, rfl, h1, h2⟩ := h; exact K M' h1 h2)
/-- a load from the script -/
theorem hz_sld {i : Int} {j : Nat} (hd : decode I.1 pc = .ok (.iaload, 1)) (hi : i = (j : Int)) (hj : j < LS) (hL : LS < 2147483648) (K : GS bS LS xS I mc ms Q k n (pc + 1) pl (vI (xS j).toInt :: st) M z) : GS bS LS xS I mc ms Q k n pc pl (vI i :: .ref bS :: st) M z := by
  intro E p l e R s m args below meth c A H locs ls X Wd L Y
  have hin : vp_in (iZ i) LS := fun q => by
    rcases q with q | q
    · have := (iZ_lt (a := i) (b := 0) (by omega) (by omega)).mp (by rw [iZ_0]; exact q)
      omega
    · have e1 : (iZ i).toNatClampNeg = j := by
        have := iZ_toInt (a := i) (by omega)
        unfold Int32.toNatClampNeg
        rw [this, hi, Int.toNat_natCast]
      omega
  refine va_sld X.1 X.2.1 Y.1 Y.2.1 Y.2.2 Wd.2.2.1 hin hd ?_
  have e1 : (iZ i).toNatClampNeg = j := by
    have := iZ_toInt (a := i) (by omega)
    unfold Int32.toNatClampNeg
    rw [this, hi, Int.toNat_natCast]
  rw [e1, ← show iZ (xS j).toInt = xS j from (iZ_of (xS j)).symm]
  exact K E p l e R s m args below meth c A H locs ls X Wd L Y
theorem hz_slen (hd : decode I.1 pc = .ok (.arraylength, 1)) (K : GS bS LS xS I mc ms Q k n (pc + 1) pl (vI (LS : Int) :: st) M z) : GS bS LS xS I mc ms Q k n pc pl (.ref bS :: st) M z := by
  intro E p l e R s m args below meth c A H locs ls X Wd L Y
  refine va_slen X.1 X.2.1 Y.1 Y.2.1 Y.2.2 Wd.2.2.1 hd ?_
  rw [show Int32.ofNat LS = iZ (LS : Int) from by unfold iZ; exact Int32.ofInt_eq_ofNat.symm]
  exact K E p l e R s m args below meth c A H locs ls X Wd L Y
end GSS
/-- a contract of a static method that reads the script -/
def CX (bS LS : Nat) (xS : Nat → Int32) (I : MI) (y : MethodName) (args : List Value) (M : pM) (z : Nat) (v : Value) : Prop :=
  ∀ (l : Launch) (E : pT), Met l y (Cond.code y I.1 I.2.1 I.2.2.1 :: TBL) (pR I 0 0) (va_Pc args (fun U => U.heap.size = z ∧ pH E M U.heap ∧ pK E U ∧ va_X bS LS xS U U.heap ∧ bS < U.heap.size ∧ ¬ AA M z bS)) (pQ E (AA M z) (fun M' z' r' => M' = M ∧ z' = z ∧ r' = some v)) 0 0 (AA M z)
theorem CX.intro {bS LS : Nat} {xS : Nat → Int32} {I : MI} {y : MethodName} {args : List Value} {pl : List (Option Value)} {M : pM} {z : Nat} {v : Value} (hn : plainName y.cls = true) (hc : I.2.2.2.1 = y.cls) (hi : I.2.2.2.2.2.2 = true → y.name = "<init>") (hl : pl.length = I.2.1) (hls : (lg_sl args).length ≤ I.2.1) (he : en 0 pl = lv_args 0 args) (K : GS bS LS xS I 0 0 (fun M' z' r' => M' = M ∧ z' = z ∧ r' = some v) 0 0 0 pl [] M z) : CX bS LS xS I y args M z v := by
  intro l E
  refine Met.ofW (cc := I.1) (maxL := I.2.1) (ret := I.2.2.1) hn rfl ?_
  intro p e s m args' below meth c s₁ B hml hv
  obtain ⟨rfl, hz, hH, hK, hX, hb, hA⟩ := hv
  have hts := atoms_spec (ws := Cond.code y I.1 I.2.1 I.2.2.1 :: TBL) B.pre
  have hin : meth.name = y.name := (name_of_methodNamed B.named B.method).1
  rw [lg_entry_eq]
  have h0 := lv_entry args hls
  refine K E p l e _ s m _ below meth c (AA M z) s.heap [] _ ⟨B.exec, B.bytes, hml, by rw [hc]; exact findClass_of_methodNamed B.named, fun w hw => hts w (List.mem_cons_of_mem _ hw), B.notSynchronized, B.returns, fun h => hin.trans (hi h), rfl, hK⟩ ⟨hH, hz, va_S.rf, fun q e h => Or.inl ⟨e, h⟩, fun q h => Or.inr (by rw [← hz]; exact h)⟩ ⟨hl, h0.1, h0.2.1, fun i v hiv => h0.2.2 (i, v) ?_⟩ ⟨hX, hb, hA⟩
  rw [← he]
  exact (mem_en pl 0 (i, v)).mpr ⟨Nat.zero_le _, by simpa using hiv⟩
theorem hz_callX {bS LS : Nat} {xS : Nat → Int32} {I : MI} {mc ms : Nat} {Q : pM → Nat → Option Value → Prop} {k n pc : Nat} {pl : List (Option Value)} {st : List Value} {M : pM} {z : Nat} {J : MI} {y : MethodName} {idx nA : Nat} {As rest : List Value} {v : Value} (hd : decode I.1 pc = .ok (.invokestatic idx, 3)) (lm : LkM I.2.2.2.1 idx y) (lk : LkS y J nA) (hC : CX bS LS xS J y As M z v) (hst : st = As.reverse ++ rest) (hn : As.length = nA) (hroom : pRoom I J) (hW : (rest.map fun v => v.category).sum ≤ 8) (hk : k ≤ mc) (hs : n ≤ ms) (K : GS bS LS xS I mc ms Q k n (pc + 3) pl (v :: rest) M z) : GS bS LS xS I mc ms Q k n pc pl st M z := by
  intro E p l e R s m args below meth c A H locs ls X Wd L Y
  have hts := X.2.2.2.2.1
  have hKv := X.2.2.2.2.2.2.2.2.2
  have hR : R = pR I mc ms := X.2.2.2.2.2.2.2.2.1
  obtain ⟨g1, g2, g3, g4, g5⟩ := id Wd
  have hbH : H[bS]? = s.heap[bS]? := g3.2.1 bS Y.2.1 Y.2.2
  have hbz : bS < H.size := Nat.lt_of_lt_of_le Y.2.1 g3.1
  have hAb : ¬ AA M z bS := fun q => by
    rcases q with ⟨e0, q⟩ | q
    · exact Y.2.2 (g4 _ _ q)
    · rw [g2] at hbz; omega
  have hpre : PreS s H (va_Pc As (fun U => U.heap.size = z ∧ pH E M U.heap ∧ pK E U ∧ va_X bS LS xS U U.heap ∧ bS < U.heap.size ∧ ¬ AA M z bS)) As := ⟨fun a U g mk q => ⟨q.1, q.2.1, q.2.2.1, pK.same (rfl : U.vm = (U.calling g mk a).vm) (Vm.Alike.refl U.vm) q.2.2.2.1, va_X.moved (u := U) (U := U.calling g mk a) (Vm.Alike.refl U.vm) q.2.2.2.2.1, q.2.2.2.2.2⟩, fun U hU hW => ⟨rfl, by rw [hU]; exact Wd.2.1, by rw [hU]; exact Wd.1, hKv.moved hW, by rw [hU]; exact (Y.1.kept hbH).moved hW.alike, by rw [hU]; exact hbz, hAb⟩⟩
  have hcb : (pR J 0 0).frames + 1 ≤ R.frames ∧ 8 + (J.2.1 + 11) + (pR J 0 0).locals ≤ R.locals := by rw [hR]; exact hroom
  have hf : k + 0 ≤ R.cells ∧ n + 0 ≤ R.slots := by rw [hR]; exact ⟨hk, hs⟩
  rcases lm with lm | ⟨host, lm⟩
  · refine pCall (va_runS (As := As) (rest := rest) ⟨X.1, X.2.1, X.2.2.1, X.2.2.2.1, hts⟩ (hC l E) ⟨callB_of nA hts (TBL_sub lk.1) rfl rfl rfl (hts _ lk.1.2.1) (hts _ lm) lk.1.2.2.1 hcb, hts _ lk.2⟩ hpre rfl hn L.2.1 hst (lv_room hW) hd hf) Wd ?_
    exact fun r M' z' H1 locs1 hq hw => by
      obtain ⟨rfl, rfl, rfl⟩ := hq
      exact K E p l e R s m args below meth c A H1 locs1 ls X hw L Y
  · refine pCall (va_runSN (As := As) (rest := rest) ⟨X.1, X.2.1, X.2.2.1, X.2.2.2.1, hts⟩ (hC l E) ⟨va_cnB nA hts (TBL_sub lk.1) rfl rfl rfl (hKv.2.1 _ lm rfl) (hts _ lk.1.2.1) lk.1.2.2.1 hcb, hts _ lk.2, trivial⟩ hpre rfl hn L.2.1 hst (lv_room hW) hd hf) Wd ?_
    exact fun r M' z' H1 locs1 hq hw => by
      obtain ⟨rfl, rfl, rfl⟩ := hq
      exact K E p l e R s m args below meth c A H1 locs1 ls X hw L Y
