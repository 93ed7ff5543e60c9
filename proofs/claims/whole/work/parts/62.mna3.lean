/-! MULTIANEWARRAY: the walk's row -/
theorem mna_over {args : Array Value} {s : State} (h : (Cond.arrayOver (.array .long)).before args s = true) : ∃ comp c k, s.vm.findClass "[J" = some comp ∧ s.vm.classes[c]? = some k ∧ k.kind = .array comp (.array .long) ∧ s.vm.findClass "[[J" = some c := by
  have h' : (Cond.arrayOver (.array .long)).holds args s none s [] = true := h
  simp only [Cond.holds, Cond.value, beq_iff_eq] at h'
  have e1 : (FieldType.array .long).toString = "[J" := rfl
  have e2 : "[" ++ "[J" = "[[J" := rfl
  rw [e1] at h'
  cases hc : s.vm.findClass "[J" with
  | none => simp [hc] at h'
  | some comp =>
    simp only [hc, Option.bind_some, Option.bind_eq_some_iff, Option.map_eq_some_iff] at h'
    obtain ⟨c, hi, k, hk, hb⟩ := h'
    obtain ⟨hlt, hp, -⟩ := Array.findIdx?_eq_some_iff_getElem.mp hi
    have hkk : s.vm.classes[c] = k := (Array.getElem?_eq_some_iff.mp hk).2
    rw [hkk] at hp
    cases hkind : k.kind with
    | array component ty =>
      rw [hkind] at hb hp
      simp at hb hp
      exact ⟨comp, c, k, rfl, hk, by rw [hkind, hp, hb.1], by rw [← e2]; exact hb.2⟩
    | _ => rw [hkind] at hb; simp at hb
def mna_H (H : Heap) (cR cJ : ClassId) : Nat → Heap
  | 0 => H.push (mna_C cR H.size 0)
  | k + 1 => ((mna_H H cR cJ k).push (mna_R cJ)).setIfInBounds H.size (mna_C cR H.size (k + 1))
theorem mna_SH (s : State) (cR cJ : ClassId) : ∀ k, (mna_S s cR cJ k).heap = mna_H s.heap cR cJ k
  | 0 => rfl
  | k + 1 => by
    show ((mna_S s cR cJ k).heap.push _).setIfInBounds _ _ = _
    rw [mna_SH s cR cJ k]
    rfl
section MNA
variable {p : Program} {l : Launch} {e : Env} {R : Room} {s : State} {m : MethodId} {args : Array Value} {below : List Frame} {meth : Method} {c : Code} {T : State} {locs : List Loc} {cells slots : Nat}
theorem mna_stand {cR cJ : ClassId} (X : Stand p l e R s m args below meth c T locs cells slots) : ∀ k, ∃ L : List Loc, (∀ q ∈ L, q.base = T.heap.size) ∧ Stand p l e R s m args below meth c (mna_S T cR cJ k) (locs ++ L) (cells + 1 + k) (slots + 6 + 8 * k)
  | 0 => ⟨[], fun q h => absurd h (by simp), by
      have h := X.pushed (mna_C cR T.heap.size 0)
      rw [List.append_nil]
      exact h⟩
  | k + 1 => by
    obtain ⟨L, hL, X1⟩ := mna_stand X k
    obtain ⟨f1, f2, f3, f4, f5⟩ := mna_S_f T cR cJ k
    have X2 := X1.pushed (mna_R cJ)
    have hc : ((mna_S T cR cJ k).pushCell (mna_R cJ)).heap[T.heap.size]? = some (mna_C cR T.heap.size k) := by
      show ((mna_S T cR cJ k).heap.push _)[T.heap.size]? = _
      rw [Array.getElem?_push, if_neg (by omega)]
      exact f2
    have X3 := X2.stored hc k (.ref (T.heap.size + 1 + k))
    refine ⟨L ++ [⟨T.heap.size, k⟩], fun q hq => ?_, ?_⟩
    · rcases List.mem_append.mp hq with h | h
      · exact hL q h
      · rw [List.mem_singleton.mp h]
    · rw [← List.append_assoc]
      exact X3
theorem mna_go (X : Stand p l e R s m args below meth c T locs cells slots) (hexec : p.tables.exec = Jvm.exec) {own : String} {index : Nat} (hown : s.vm.findClass own = some m.cls) (hclink : (Cond.classLink own index "[[J").before args s = true) {cR cJ : ClassId} {kR kJ : Class} {x : ClassId} (hnR : s.vm.findClass "[[J" = some cR) (hkR : s.vm.classes[cR]? = some kR) (hkindR : kR.kind = .array cJ (.array .long)) (hkJ : s.vm.classes[cJ]? = some kJ) (hkindJ : kJ.kind = .array x .long)
    {g : JFrame} (hg : g.method = m) (hdg : decode c.code g.pc = .ok (.multianewarray index 2, 4)) {rest : List Value} (hstack : g.stack = .int 8 :: .int 6 :: rest) (hcells : cells + 7 ≤ R.cells) (hslots : slots + 54 ≤ R.slots) :
    ∃ (vm₁ : Vm) (L : List Loc), (∀ q ∈ L, q.base = T.heap.size) ∧ Stand p l e R s m args below meth c (mna_S (T.setVm vm₁) cR cJ 6) (locs ++ L) (cells + 7) (slots + 54) ∧
      ∀ target, Steps p.tables e below ((mna_S (T.setVm vm₁) cR cJ 6).setTop { g with pc := g.pc + 4, stack := .ref T.heap.size :: rest }) target → Steps p.tables e below (T.setTop g) target := by
  subst hg
  have hpl : e.platform.magicAccessors = ({} : Platform).magicAccessors := by rw [X.admits.platform]
  obtain ⟨cc, hfcc, hcl⟩ := Cond.classLink_spec hown hclink e.platform hpl
  cases hnR.symm.trans hfcc
  obtain ⟨hg₁, hwarm₁, hready₁⟩ := State.classEntry (e := e) X.warmed hcl
  generalize T.vm.noted g.method.cls index (.cls cR) = vm₁ at hg₁ hwarm₁ hready₁
  have hal : s.vm.Alike vm₁ := hwarm₁.alike
  obtain ⟨kR₁, hkR₁, heR⟩ := hal.2.2 _ _ hkR
  obtain ⟨kJ₁, hkJ₁, heJ⟩ := hal.2.2 _ _ hkJ
  have hkindR₁ : kR₁.kind = .array cJ (.array .long) := by rw [heR]; exact hkindR
  have hkindJ₁ : kJ₁.kind = .array x .long := by rw [heJ]; exact hkindJ
  have hlimit : ¬ 8 > e.platform.arrayLengthLimit := by rw [Launch.admits_arrayLengthLimit X.admits]; omega
  have hheap : ¬ 8 * componentBytes .long > e.platform.maxHeapBytes := by
    rw [Launch.admits_maxHeapBytes X.admits]
    show ¬ 8 * 8 > 536870912
    omega
  have X₁ := X.noted hwarm₁
  obtain ⟨L, hL, X₂⟩ := mna_stand (cR := cR) (cJ := cJ) X₁ 6
  obtain ⟨hr1, hr2⟩ := X.roomAbove hcells hslots
  refine ⟨vm₁, L, hL, X₂, fun target hrest => ?_⟩
  refine Steps.instr (c := c) (by simpa using X.here) ?_

  have hcold : ∀ {Q : Unit → Pre} {E : CtlPost} {d : Bool} {acts : List Action}, wp (Jvm.Op.multianewarray.sem index 2) Q E e d acts (T.setTop g) ↔ wp (Jvm.Op.multianewarray.sem index 2) Q E e d acts ((T.setVm vm₁).setTop g) := by
    intro Q E d acts
    simp only [Jvm.Op.multianewarray.sem, wp_bind']
    exact W.resolveClassAt_transfer (s := T.setTop g) (State.method?_setTop g X.here.top) hg₁ hready₁
  rw [hdg]
  show (p.tables.exec (.multianewarray index 2)).wpRun _ _ e (T.setTop g)
  rw [hexec]
  show wp (Jvm.Op.multianewarray.sem index 2) _ _ e false [] (T.setTop g)
  rw [hcold]
  refine mna_sem (s := T.setVm vm₁) (kR := kR₁) (kJ := kJ₁) X.here.top hready₁ hstack hkR₁ hkindR₁ hkJ₁ hkindJ₁ hlimit hheap hr1 hr2 (fun acts' acts2 => ?_)
  rw [afterInstr_ok]
  exact hrest
/-- 6 rows of 8 longs -/
theorem W.mna {H : Heap} {Q : State → Prop} {cc : ByteArray} (hexec : p.tables.exec = Jvm.exec) (hb : c.code = cc) {own : String} {index : Nat} (hown : s.vm.findClass own = some m.cls) (hclink : (Cond.classLink own index "[[J").before args s = true) {cR cJ : ClassId} {kR kJ : Class} {x : ClassId} (hnR : s.vm.findClass "[[J" = some cR) (hkR : s.vm.classes[cR]? = some kR) (hkindR : kR.kind = .array cJ (.array .long)) (hkJ : s.vm.classes[cJ]? = some kJ) (hkindJ : kJ.kind = .array x .long)
    {pc : Nat} {ls : Array Slot} {rest : List Value} (hdg : decode cc pc = .ok (.multianewarray index 2, 4)) (hcells : cells + 7 ≤ R.cells) (hslots : slots + 54 ≤ R.slots)
    (kk : ∀ L : List Loc, (∀ q ∈ L, q.base = H.size) → W p l e R s m args below meth c (mna_H H cR cJ 6) (locs ++ L) (cells + 7) (slots + 54) Q (F0 m (pc + 4) ls (.ref H.size :: rest))) : W p l e R s m args below meth c H locs cells slots Q (F0 m pc ls (.int 8 :: .int 6 :: rest)) := by
  intro T hT X
  subst hb
  subst hT
  obtain ⟨vm₁, L, hL, X', st⟩ := mna_go X hexec hown hclink hnR hkR hkindR hkJ hkindJ (g := F0 m pc ls (.int 8 :: .int 6 :: rest)) rfl hdg rfl hcells hslots
  obtain ⟨t, a1, b1⟩ := kk L hL _ (mna_SH (T.setVm vm₁) cR cJ 6) X'
  exact ⟨t, st t a1, b1⟩
end MNA
