/-! MULTIANEWARRAY of 6 rows of 8 longs: the machine's own words -/
theorem mna_row {Q : Addr → Pre} {E : CtlPost} {e : Env} {d : Bool} {acts : List Action} {s : State} {cJ x : ClassId} {kJ : Class} (hk : s.vm.classes[cJ]? = some kJ) (hkind : kJ.kind = .array x .long) (hlimit : ¬ 8 > e.platform.arrayLengthLimit) (hheap : ¬ 8 * componentBytes .long > e.platform.maxHeapBytes) (h1 : s.heap.size < e.platform.maxCells) (h2 : s.slotsUsed + 8 ≤ e.platform.maxSlots) (hq : Q s.heap.size d acts (s.pushCell { cls := cJ, slots := Array.replicate 8 (.long 0), vm := .none })) : wp (Jvm.Op.multianewarray.make cJ [8]) Q E e d acts s := by
  have h8 : ¬ (8 : Int32) < 0 := by decide
  have h88 : (8 : Int32).toNatClampNeg = 8 := by decide
  have hfit : ∀ i v, (Array.replicate 8 (defaultValue .long))[i]? = some v → s.fitsSlot cJ .none i v = true := by
    intro i v hv
    simp only [Array.getElem?_replicate] at hv
    split at hv
    · cases hv
      simp [State.fitsSlot, State.slotType?, hk, hkind, fits_default]
    · cases hv
  have hdef : allocActs (Array.replicate 8 (defaultValue .long)) s.heap.size acts = acts := by
    have hall : ((Array.replicate 8 (defaultValue .long)).all (·.isDefault)) = true := by
      rw [Array.all_replicate]; split <;> simp [isDefault_default]
    unfold allocActs
    rw [if_pos hall]
  unfold Jvm.Op.multianewarray.make
  simp only [wp_bind', W.ite, h8, if_false, wp_pure', W.theClass, hk, Option.some.injEq, exists_eq_left', hkind, Jvm.newArray, Jvm.arrayFits, W.ask, h88, hlimit, hheap, W.alloc, W.stop, hdef, Array.size_replicate]
  rw [if_neg (by omega)]
  exact ⟨h1, h2, hfit, hq⟩
def mna_C (cR : ClassId) (h : Nat) : Nat → Cell
  | 0 => { cls := cR, slots := Array.replicate 6 .null, vm := .none }
  | k + 1 => (mna_C cR h k).setSlot k (.ref (h + 1 + k))
def mna_R (cJ : ClassId) : Cell := { cls := cJ, slots := Array.replicate 8 (.long 0), vm := .none }
def mna_S (s : State) (cR cJ : ClassId) : Nat → State
  | 0 => s.pushCell (mna_C cR s.heap.size 0)
  | k + 1 => ((mna_S s cR cJ k).pushCell (mna_R cJ)).setCell s.heap.size (mna_C cR s.heap.size (k + 1))
theorem mna_C_f (cR : ClassId) (h : Nat) : ∀ k, (mna_C cR h k).cls = cR ∧ (mna_C cR h k).vm = .none ∧ (mna_C cR h k).slots.size = 6
  | 0 => ⟨rfl, rfl, by simp [mna_C]⟩
  | k + 1 => by
    obtain ⟨h1, h2, h3⟩ := mna_C_f cR h k
    refine ⟨h1, h2, ?_⟩
    simp [mna_C, Cell.setSlot, h3]
theorem mna_S_f (s : State) (cR cJ : ClassId) : ∀ k, (mna_S s cR cJ k).heap.size = s.heap.size + 1 + k ∧ (mna_S s cR cJ k).heap[s.heap.size]? = some (mna_C cR s.heap.size k) ∧ (mna_S s cR cJ k).vm = s.vm ∧ (mna_S s cR cJ k).slotsUsed = s.slotsUsed + 6 + 8 * k ∧ (mna_S s cR cJ k).topJava? = s.topJava?
  | 0 => by simp [mna_S, mna_C]
  | k + 1 => by
    obtain ⟨h1, h2, h3, h4, h5⟩ := mna_S_f s cR cJ k
    refine ⟨?_, ?_, ?_, ?_, ?_⟩
    · simp [mna_S, h1]
      omega
    · refine State.heap_setCell_self (c := mna_C cR s.heap.size k) ?_
      simp [h1]
      rw [Array.getElem?_push, if_neg (by omega)]
      exact h2
    · exact h3
    · simp [mna_S, h4, mna_R]
      omega
    · simp [mna_S, h5]
theorem mna_step {Q : Unit → Pre} {E : CtlPost} {e : Env} {d : Bool} {acts : List Action} {s : State} {cR cJ x : ClassId} {kR kJ : Class} {k : Nat} (hk6 : k < 6) (hkR : s.vm.classes[cR]? = some kR) (hkindR : kR.kind = .array cJ (.array .long)) (hk : s.vm.classes[cJ]? = some kJ) (hkind : kJ.kind = .array x .long) (hlimit : ¬ 8 > e.platform.arrayLengthLimit) (hheap : ¬ 8 * componentBytes .long > e.platform.maxHeapBytes) (h1 : s.heap.size + 7 ≤ e.platform.maxCells) (h2 : s.slotsUsed + 54 ≤ e.platform.maxSlots) (hq : ∀ d' acts', Q () d' acts' (mna_S s cR cJ (k + 1))) : wp (Jvm.Op.multianewarray.make cJ [8] >>= fun a => Jvm.writeLoc s.heap.size k (.ref a)) Q E e d acts (mna_S s cR cJ k) := by
  obtain ⟨f1, f2, f3, f4, f5⟩ := mna_S_f s cR cJ k
  obtain ⟨g1, g2, g3⟩ := mna_C_f cR s.heap.size k
  rw [wp_bind']
  refine mna_row (kJ := kJ) (x := x) (by rw [f3]; exact hk) hkind hlimit hheap (by omega) (by omega) ?_
  rw [W.writeLoc]
  refine ⟨mna_C cR s.heap.size k, ?_, by rw [g2]; simp, by omega, ?_, ?_⟩
  · show ((mna_S s cR cJ k).heap.push _)[s.heap.size]? = _
    rw [Array.getElem?_push, if_neg (by omega)]
    exact f2
  · rw [g1, g2]
    simp [State.fitsSlot, State.slotType?, f3, hkR, hkindR]
    rfl
  · rw [f1]
    exact hq _ _
