theorem l_arr {ty : FieldType} {args : Array Value} {s : State} (h : (Cond.arrayClass ty).before args s = true) : ∃ cA : ClassId, ArrOfT s cA ty ∧ s.vm.findClass ("[" ++ ty.toString) = some cA := by
  obtain ⟨cA, kA, comp, h1, h2, h3⟩ := Cond.arrayClass_spec h
  exact ⟨cA, fun n z => ⟨fun k h => (by cases h), kA, h2, comp, h3⟩, h1⟩
theorem l_arr2 {args : Array Value} {s : State} (h : (Cond.arrayOver (.array .long)).before args s = true) : ∃ cA : ClassId, ArrOfT s cA (.array .long) ∧ s.vm.findClass ("[" ++ (FieldType.array .long).toString) = some cA := by
  obtain ⟨comp, c, k, -, h2, h3, h4⟩ := mna_over h
  exact ⟨c, fun n z => ⟨fun k h => (by cases h), k, h2, comp, h3⟩, h4⟩
theorem l_tbl {args : Array Value} {s : State} (hts : ∀ w ∈ lw_tbl, w.before args s = true) : ∀ w ∈ aw_tbl, w.before args s = true := fun w hw => hts w (aw_tbl_sub hw)
theorem l_cls {args : Array Value} {s : State} (hts : ∀ w ∈ aw_tbl, w.before args s = true) (c : Nat) : ∃ (cC : ClassId) (iS : Nat → Nat), ∀ q : vw_C, classes[c]? = some q → u_Kn s q.1 q.2.1 q.2.2 cC iS := by
  have k : ∀ {C : String} {T : u_T} {N : Nat}, (∀ w ∈ u_ws C T N, w ∈ aw_tbl) → Cond.instantiable C N ∈ aw_tbl → classes[c]? = some (C, T, N) → ∃ (cC : ClassId) (iS : Nat → Nat), ∀ q : vw_C, classes[c]? = some q → u_Kn s q.1 q.2.1 q.2.2 cC iS := by
    intro C T N h1 h2 h3
    obtain ⟨cC, iS, h⟩ := u_known hts h1 (hts _ h2)
    refine ⟨cC, iS, fun q hq => ?_⟩
    rw [h3] at hq
    cases hq
    exact h
  rcases (by omega : c = 0 ∨ c = 1 ∨ c = 2 ∨ c = 3 ∨ c = 4 ∨ c = 5 ∨ c = 6 ∨ c = 7 ∨ 8 ≤ c) with rfl | rfl | rfl | rfl | rfl | rfl | rfl | rfl | h
  · exact k (C := RX0) (T := TX0) (N := 5) aw_C0.2.1 (by decide +kernel) rfl
  · exact k (C := RX1) (T := TX1) (N := 9) aw_C1.2.1 (by decide +kernel) rfl
  · exact k (C := RX2) (T := TX2) (N := 2) aw_C2.2.1 (by decide +kernel) rfl
  · exact k (C := RX4) (T := TX4) (N := 3) aw_C3.2.1 (by decide +kernel) rfl
  · exact k (C := RX5) (T := TX5) (N := 3) aw_C4.2.1 (by decide +kernel) rfl
  · exact k (C := RX6) (T := TX6) (N := 13) aw_C5.2.1 (by decide +kernel) rfl
  · exact k (C := RX7) (T := TX7) (N := 9) aw_C6.2.1 (by decide +kernel) rfl
  · exact k (C := RX8) (T := TX8) (N := 33) aw_C7.2.1 (by decide +kernel) rfl
  · exact ⟨0, fun _ => 0, fun q hq => absurd hq (by rw [List.getElem?_eq_none (by show 8 ≤ c; exact h)]; exact fun e => by cases e)⟩
theorem l_K {b : Nat} {s : State} (hts : ∀ w ∈ lw_tbl, w.before #[Value.ref b] s = true) : ∃ (D : va_G) (cI cJ cR : ClassId), ∀ (l : Launch) (bs : Nat), aw_K (l, D, cI, cJ, cR, bs) s := by
  have ht := l_tbl hts
  obtain ⟨cI, i1, i2⟩ := l_arr (ht _ aw_wI)
  obtain ⟨cJ, j1, j2⟩ := l_arr (ht _ aw_wJ)
  have hov : (Cond.arrayOver (.array .long)).before #[] s = true := hts (.arrayOver (.array .long)) (by decide +kernel)
  obtain ⟨cR, r1, r2⟩ := l_arr2 hov
  have hc := l_cls ht
  refine ⟨(fun c => Classical.choose (hc c), fun c => Classical.choose (Classical.choose_spec (hc c))), cI, cJ, cR, fun l bs => ⟨⟨fun c q hq => Classical.choose_spec (Classical.choose_spec (hc c)) q hq, fun k q hk => ?_⟩, fun w hw => ?_, hov⟩⟩
  · rcases (by omega : k = 0 ∨ k = 1 ∨ k = 2 ∨ 3 ≤ k) with rfl | rfl | rfl | h
    · cases hk; exact ⟨i1, i2⟩
    · cases hk; exact ⟨j1, j2⟩
    · cases hk; exact ⟨r1, r2⟩
    · rw [List.getElem?_eq_none (by show 3 ≤ k; exact h)] at hk; cases hk
  · have h : ∀ w ∈ aw_nest, w ∈ lw_tbl := by decide +kernel
    have h2 := hts w (h w hw)
    unfold va_Nw
    simp only [aw_nest, List.mem_cons, List.not_mem_nil, or_false] at hw
    rcases hw with rfl | rfl | rfl | rfl <;> exact h2
