/-! MULTIANEWARRAY: the loop, the instruction -/
theorem mna_loop {Q : PUnit → Pre} {E : CtlPost} {e : Env} {s : State} {cR cJ x : ClassId} {kR kJ : Class} (hkR : s.vm.classes[cR]? = some kR) (hkindR : kR.kind = .array cJ (.array .long)) (hk : s.vm.classes[cJ]? = some kJ) (hkind : kJ.kind = .array x .long) (hlimit : ¬ 8 > e.platform.arrayLengthLimit) (hheap : ¬ 8 * componentBytes .long > e.platform.maxHeapBytes) (h1 : s.heap.size + 7 ≤ e.platform.maxCells) (h2 : s.slotsUsed + 54 ≤ e.platform.maxSlots) (hq : ∀ d' acts', Q PUnit.unit d' acts' (mna_S s cR cJ 6)) : ∀ (n k : Nat) (d : Bool) (acts : List Action), k + n = 6 → wp (forIn (List.range' k n) PUnit.unit (fun i _ => do
    let a ← Jvm.Op.multianewarray.make cJ [8]
    Jvm.writeLoc s.heap.size i (.ref a)
    Pure.pure (ForInStep.yield PUnit.unit))) Q E e d acts (mna_S s cR cJ k) := by
  intro n
  induction n with
  | zero =>
    intro k d acts h
    rw [show k = 6 by omega]
    exact hq _ _
  | succ n ih =>
    intro k d acts h
    rw [List.range'_succ, List.forIn_cons, wp_bind', wp_bind']
    have hs := mna_step (Q := fun _ d a t => wp (forIn (List.range' (k + 1) n) PUnit.unit (fun i _ => do
      let a ← Jvm.Op.multianewarray.make cJ [8]
      Jvm.writeLoc s.heap.size i (.ref a)
      Pure.pure (ForInStep.yield PUnit.unit))) Q E e d a t) (E := E) (d := d) (acts := acts) (k := k) (by omega) hkR hkindR hk hkind hlimit hheap h1 h2 (fun d' acts' => ih (k + 1) d' acts' (by omega))
    rw [wp_bind'] at hs
    exact hs
theorem mna_make {Q : Addr → Pre} {E : CtlPost} {e : Env} {d : Bool} {acts : List Action} {s : State} {cR cJ x : ClassId} {kR kJ : Class} (hkR : s.vm.classes[cR]? = some kR) (hkindR : kR.kind = .array cJ (.array .long)) (hk : s.vm.classes[cJ]? = some kJ) (hkind : kJ.kind = .array x .long) (hlimit : ¬ 8 > e.platform.arrayLengthLimit) (hheap : ¬ 8 * componentBytes .long > e.platform.maxHeapBytes) (h1 : s.heap.size + 7 ≤ e.platform.maxCells) (h2 : s.slotsUsed + 54 ≤ e.platform.maxSlots) (hq : ∀ d' acts', Q s.heap.size d' acts' (mna_S s cR cJ 6)) : wp (Jvm.Op.multianewarray.make cR [6, 8]) Q E e d acts s := by
  have h6 : ¬ (6 : Int32) < 0 := by decide
  have h66 : (6 : Int32).toNatClampNeg = 6 := by decide
  have h60 : ((6 : Int32) == 0) = false := by decide
  have hl6 : ¬ 6 > e.platform.arrayLengthLimit := by omega
  have hb : componentBytes (.array .long) = 4 := rfl
  have hb8 : componentBytes .long = 8 := rfl
  have hhp6 : ¬ 6 * componentBytes (.array .long) > e.platform.maxHeapBytes := by rw [hb]; rw [hb8] at hheap; omega
  unfold Jvm.Op.multianewarray.make
  simp only [wp_bind', W.ite, h6, if_false, wp_pure', W.theClass, hkR, Option.some.injEq, exists_eq_left', hkindR, Jvm.newArray, Jvm.arrayFits, W.ask, h66, h60, hl6, hhp6, W.alloc, W.stop, Array.size_replicate]
  rw [if_neg (by omega)]
  have hfit : ∀ i v, (Array.replicate 6 Value.null)[i]? = some v → s.fitsSlot cR .none i v = true := by
    intro i v hv
    simp only [Array.getElem?_replicate] at hv
    split at hv
    · cases hv
      simp [State.fitsSlot, State.slotType?, hkR, hkindR]
      rfl
    · cases hv
  refine ⟨by omega, by omega, hfit, ?_⟩
  rw [if_neg (by decide), Std.Legacy.Range.forIn_eq_forIn_range']
  exact mna_loop (Q := fun _ d a t => Q s.heap.size d a t) hkR hkindR hk hkind hlimit hheap h1 h2 hq 6 0 _ _ rfl
theorem mna_sem {Q : Unit → Pre} {E : CtlPost} {e : Env} {d : Bool} {acts : List Action} {s : State} {f : JFrame} {index : Nat} {rest : List Value} {cR cJ x : ClassId} {kR kJ : Class} (hs : s.topJava?.isSome) (hr : s.vm.classReady f.method.cls index cR) (hstack : f.stack = .int 8 :: .int 6 :: rest) (hkR : s.vm.classes[cR]? = some kR) (hkindR : kR.kind = .array cJ (.array .long)) (hk : s.vm.classes[cJ]? = some kJ) (hkind : kJ.kind = .array x .long) (hlimit : ¬ 8 > e.platform.arrayLengthLimit) (hheap : ¬ 8 * componentBytes .long > e.platform.maxHeapBytes) (h1 : s.heap.size + 7 ≤ e.platform.maxCells) (h2 : s.slotsUsed + 54 ≤ e.platform.maxSlots) (hq : ∀ acts', Q () true acts' ((mna_S s cR cJ 6).setTop { f with stack := .ref s.heap.size :: rest })) : wp (Jvm.Op.multianewarray.sem index 2) Q E e d acts (s.setTop f) := by
  unfold Jvm.Op.multianewarray.sem
  rw [wp_bind', W.resolveClassAt_ready (State.method?_setTop f hs) hr, wp_bind', W.popN, if_neg (by decide)]
  refine ⟨f, State.topJava?_setTop' _ hs, [.int 6, .int 8], rest, rfl, hstack, ?_⟩
  rw [State.setTop_setTop]
  simp only [List.mapM_cons, List.mapM_nil, wp_bind', wp_pure']
  have e1 : ∀ k, mna_S (s.setTop { f with stack := rest }) cR cJ k = (mna_S s cR cJ k).setTop { f with stack := rest } := by
    intro k
    induction k with
    | zero => rfl
    | succ k ih =>
      simp only [mna_S, ih]
      rfl
  refine mna_make (s := s.setTop { f with stack := rest }) (kR := kR) (kJ := kJ) hkR hkindR hk hkind hlimit hheap h1 h2 (fun d' acts' => ?_)
  rw [wp_bind', W.mark, W.pushRef, e1]
  have ht : (mna_S s cR cJ 6).topJava?.isSome := by rw [(mna_S_f s cR cJ 6).2.2.2.2]; exact hs
  refine ⟨_, State.topJava?_setTop' _ ht, ?_⟩
  rw [State.setTop_setTop]
  exact hq _
