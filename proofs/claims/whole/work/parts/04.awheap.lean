/-! THE LAYER AW: fields, arrays, calls, ends -/
theorem aw_Dd {G : aw_G} {Ω : aw_O} {I : aw_MI} {J : aw_MJ} : va_D (aw_A G) (aw_ws G Ω I J) := by
  have key : ∀ (j : Nat) (q : Nat × va_E), (aw_ws G Ω I J)[j]? = some q → q.1 = aw_ad G j := by
    intro j q hj
    have hl : j < aw_nx Ω := by
      have := (List.getElem?_eq_some_iff.mp hj).1
      simpa [aw_ws] using this
    rw [aw_at hl] at hj
    rw [← Option.some.inj hj]
  refine ⟨fun i j x y hi hj hxy => ?_, fun j q hj => ?_⟩
  · have h1 := key i x hi
    have h2 := key j y hj
    unfold aw_ad at h1 h2
    omega
  · have h1 := key j q hj
    unfold aw_ad at h1
    show aw_bs G ≤ q.1
    omega
theorem aw_val_cong {G : aw_G} {Ω : aw_O} {I I' : aw_MI} {J J' : aw_MJ} {j : Nat} (h1 : I' j = I j) (h2 : J' j = J j) : aw_val G Ω I' J' j = aw_val G Ω I J j := by
  funext k t
  simp only [aw_val, h1, h2]
theorem aw_E_cong {G : aw_G} {Ω : aw_O} {I I' : aw_MI} {J J' : aw_MJ} {j : Nat} (h1 : I' j = I j) (h2 : J' j = J j) : aw_E G Ω I' J' j = aw_E G Ω I J j := by
  simp only [aw_E, aw_val_cong h1 h2, h1, h2]
/-- from the room: how large the heap is -/
theorem aw_sz {p : Program} {G : aw_G} {e : Env} {R : Room} {s : State} {m : MethodId} {args : Array Value} {below : List Frame} {meth : Method} {c : Code} {T : State} {locs : List Loc} {k n N0 : Nat} {Ω : aw_O} {I : aw_MI} {J : aw_MJ} {H : Heap} (X : Stand p (aw_l G) e R s m args below meth c T locs k n) (hT : T.heap = H) (hs : s.heap.size = aw_bs G + N0) (hN : aw_nx Ω = N0 + k) (hle : s.heap.size ≤ H.size) (hP : va_P (aw_D G) classes (aw_ws G Ω I J) H) : H.size = aw_bs G + aw_nx Ω := by
  have h1 := X.heapSize
  rw [hT, hs] at h1
  by_cases h0 : aw_nx Ω = 0
  · omega
  · have h2 := (hP (aw_nx Ω - 1) _ (aw_at (by omega))).lt
    have h3 : aw_bs G + (aw_nx Ω - 1) < H.size := h2
    omega
def aw_is (Ω : aw_O) (i : Nat) (S : aw_S) : Prop := i < aw_nx Ω ∧ aw_sh Ω i = S
/-- a class of the tables -/
def aw_C (ci : Nat) (C : String) (T : u_T) (N : Nat) (ty : Nat → FieldType) : Prop := classes[ci]? = some (C, T, N) ∧ (∀ w ∈ u_ws C T N, w ∈ aw_tbl) ∧ (∀ k, k < N → parseFieldDescriptor (T k).2.2.1 = some (ty k)) ∧ (∀ a, a < N → ∀ b, b < N → a ≠ b → (T a).2.1 ≠ (T b).2.1) ∧ aw_fty ci = (List.range N).map (fun k => aw_kd (ty k))
theorem aw_C0 : aw_C 0 RX0 TX0 5 tyX0 := ⟨rfl, by decide +kernel, tyX0_ok, nmX0, rfl⟩
theorem aw_C1 : aw_C 1 RX1 TX1 9 tyX1 := ⟨rfl, by decide +kernel, tyX1_ok, nmX1, rfl⟩
theorem aw_C2 : aw_C 2 RX2 TX2 2 tyX2 := ⟨rfl, by decide +kernel, tyX2_ok, nmX2, rfl⟩
theorem aw_C3 : aw_C 3 RX4 TX4 3 tyX4 := ⟨rfl, by decide +kernel, tyX4_ok, nmX4, rfl⟩
theorem aw_C4 : aw_C 4 RX5 TX5 3 tyX5 := ⟨rfl, by decide +kernel, tyX5_ok, nmX5, rfl⟩
theorem aw_C5 : aw_C 5 RX6 TX6 13 tyX6 := ⟨rfl, by decide +kernel, tyX6_ok, nmX6, rfl⟩
theorem aw_C6 : aw_C 6 RX7 TX7 9 tyX7 := ⟨rfl, by decide +kernel, tyX7_ok, nmX7, rfl⟩
theorem aw_C7 : aw_C 7 RX8 TX8 33 tyX8 := ⟨rfl, by decide +kernel, tyX8_ok, nmX8, rfl⟩
/-- in a class's code the index names field f, of kind t, of class ci -/
def aw_F (own : String) (idx ci f t : Nat) : Prop := ∃ (C : String) (T : u_T) (N : Nat) (ty : Nat → FieldType), aw_C ci C T N ty ∧ f < N ∧ Cond.fieldLink own idx (T f).1 (T f).2.1 (T f).2.2.1 ∈ aw_tbl ∧ aw_kd (ty f) = t
theorem aw_F.at {own : String} {idx ci f t : Nat} (h : aw_F own idx ci f t) : (aw_fty ci)[f]? = some t := by
  obtain ⟨C, T, N, ty, ⟨-, -, -, -, he⟩, hf, -, ht⟩ := h
  rw [he]
  simp [hf, ht]
theorem aw_E_obj {G : aw_G} {Ω : aw_O} {I : aw_MI} {J : aw_MJ} {i ci : Nat} (h : aw_is Ω i (.inl ci)) : (aw_ws G Ω I J)[i]? = some (aw_ad G i, .inr (ci, aw_fl (aw_val G Ω I J i) 0 (aw_fty ci))) := by
  rw [aw_at h.1]
  simp only [aw_E, h.2]
theorem aw_E_int {G : aw_G} {Ω : aw_O} {I : aw_MI} {J : aw_MJ} {i N : Nat} (h : aw_is Ω i (.inr (0, N))) : (aw_ws G Ω I J)[i]? = some (aw_ad G i, .inl (aw_cI G, N, .inl (I i))) := by
  rw [aw_at h.1]
  simp only [aw_E, h.2]
theorem aw_E_lng {G : aw_G} {Ω : aw_O} {I : aw_MI} {J : aw_MJ} {i N : Nat} (h : aw_is Ω i (.inr (1, N))) : (aw_ws G Ω I J)[i]? = some (aw_ad G i, .inl (aw_cJ G, N, .inr (.inl (J i)))) := by
  rw [aw_at h.1]
  simp only [aw_E, h.2]
theorem aw_E_row {G : aw_G} {Ω : aw_O} {I : aw_MI} {J : aw_MJ} {i N : Nat} (h : aw_is Ω i (.inr (2, N))) : (aw_ws G Ω I J)[i]? = some (aw_ad G i, .inl (aw_cR G, N, .inr (.inr (.inr (.inr (fun k => (aw_P Ω i k).map (aw_ad G))))))) := by
  rw [aw_at h.1]
  simp only [aw_E, h.2]
theorem aw_up_row (I : aw_MI) (i j : Nat) (x : Int32) : aw_up I i j x i = upd (I i) j x := by
  funext q
  simp [aw_up, upd]
theorem aw_up_rowL (J : aw_MJ) (i j : Nat) (x : Int64) : aw_up J i j x i = vp_updL (J i) j x := by
  funext q
  simp [aw_up, vp_updL]
theorem aw_nIc {j N : Nat} (hj : j < N) (hN : N ≤ 1000) : vp_in (nI j) N ∧ (nI j).toNatClampNeg = j := ⟨vp_in_nI hj (by omega), nI_clamp (by omega)⟩
section AWH
variable {G : aw_G} {M : aw_M} {N0 d mc ms : Nat} {Q : aw_Q} {Ω : aw_O} {I : aw_MI} {J : aw_MJ} {k n : Nat} {lv : List Value} {pc : Nat} {st : List Value}
theorem aw_getI {idx i ci f : Nat} (hd : decode (aw_cc M) pc = .ok (.getfield idx, 3)) (hf : aw_F (aw_y M).cls idx ci f 0) (hi : aw_is Ω i (.inl ci)) (kk : AW G M N0 d mc ms Q Ω I J k n lv (pc + 3) (.int (I i f) :: st)) : AW G M N0 d mc ms Q Ω I J k n lv pc (.ref (aw_ad G i) :: st) := by
  intro p e R s m args below meth c H locs ls Z hF hl hR hS hE
  have hfa := hf.at
  obtain ⟨C, T, N, ty, ⟨hc, hin, hty, hnm, -⟩, hk, hw, ht⟩ := hf
  exact va_get hF.1 hF.2.1 hF.2.2.2.2.2.2.1 hin hF.2.2.2.2.2.1 hF.2.2.2.2.2.2.2.1.1 hR.1 i (aw_E_obj hi) hc f hk (hF.2.2.2.2.2.2.1 _ hw) (fun _ h => h) (v := .int (I i f)) (by rw [aw_fl_get _ _ 0 f _ hfa]; simp [aw_val]) hd (kk p e R s m args below meth c H locs ls Z hF hl hR hS hE)
theorem aw_getZ {idx i ci f : Nat} (hd : decode (aw_cc M) pc = .ok (.getfield idx, 3)) (hf : aw_F (aw_y M).cls idx ci f 3) (hi : aw_is Ω i (.inl ci)) (kk : AW G M N0 d mc ms Q Ω I J k n lv (pc + 3) (.int (I i f) :: st)) : AW G M N0 d mc ms Q Ω I J k n lv pc (.ref (aw_ad G i) :: st) := by
  intro p e R s m args below meth c H locs ls Z hF hl hR hS hE
  have hfa := hf.at
  obtain ⟨C, T, N, ty, ⟨hc, hin, hty, hnm, -⟩, hk, hw, ht⟩ := hf
  exact va_get hF.1 hF.2.1 hF.2.2.2.2.2.2.1 hin hF.2.2.2.2.2.1 hF.2.2.2.2.2.2.2.1.1 hR.1 i (aw_E_obj hi) hc f hk (hF.2.2.2.2.2.2.1 _ hw) (fun _ h => h) (v := .int (I i f)) (by rw [aw_fl_get _ _ 0 f _ hfa]; simp [aw_val]) hd (kk p e R s m args below meth c H locs ls Z hF hl hR hS hE)
theorem aw_getJ {idx i ci f : Nat} (hd : decode (aw_cc M) pc = .ok (.getfield idx, 3)) (hf : aw_F (aw_y M).cls idx ci f 1) (hi : aw_is Ω i (.inl ci)) (kk : AW G M N0 d mc ms Q Ω I J k n lv (pc + 3) (.long (J i f) :: st)) : AW G M N0 d mc ms Q Ω I J k n lv pc (.ref (aw_ad G i) :: st) := by
  intro p e R s m args below meth c H locs ls Z hF hl hR hS hE
  have hfa := hf.at
  obtain ⟨C, T, N, ty, ⟨hc, hin, hty, hnm, -⟩, hk, hw, ht⟩ := hf
  exact va_get hF.1 hF.2.1 hF.2.2.2.2.2.2.1 hin hF.2.2.2.2.2.1 hF.2.2.2.2.2.2.2.1.1 hR.1 i (aw_E_obj hi) hc f hk (hF.2.2.2.2.2.2.1 _ hw) (fun _ h => h) (v := .long (J i f)) (by rw [aw_fl_get _ _ 0 f _ hfa]; simp [aw_val]) hd (kk p e R s m args below meth c H locs ls Z hF hl hR hS hE)
theorem aw_getR {idx i ci f r : Nat} (hd : decode (aw_cc M) pc = .ok (.getfield idx, 3)) (hf : aw_F (aw_y M).cls idx ci f 2) (hi : aw_is Ω i (.inl ci)) (hr : aw_P Ω i f = some r) (kk : AW G M N0 d mc ms Q Ω I J k n lv (pc + 3) (.ref (aw_ad G r) :: st)) : AW G M N0 d mc ms Q Ω I J k n lv pc (.ref (aw_ad G i) :: st) := by
  intro p e R s m args below meth c H locs ls Z hF hl hR hS hE
  have hfa := hf.at
  obtain ⟨C, T, N, ty, ⟨hc, hin, hty, hnm, -⟩, hk, hw, ht⟩ := hf
  exact va_get hF.1 hF.2.1 hF.2.2.2.2.2.2.1 hin hF.2.2.2.2.2.1 hF.2.2.2.2.2.2.2.1.1 hR.1 i (aw_E_obj hi) hc f hk (hF.2.2.2.2.2.2.1 _ hw) (fun _ h => h) (v := .ref (aw_ad G r)) (by rw [aw_fl_get _ _ 0 f _ hfa]; simp [aw_val, hr, va_rf]) hd (kk p e R s m args below meth c H locs ls Z hF hl hR hS hE)
/-- in a class's code the index names a field that is not final -/
def aw_Fw (own : String) (idx ci f t : Nat) : Prop := ∃ (C : String) (T : u_T) (N : Nat) (ty : Nat → FieldType), aw_C ci C T N ty ∧ f < N ∧ Cond.fieldLink own idx (T f).1 (T f).2.1 (T f).2.2.1 ∈ aw_tbl ∧ aw_kd (ty f) = t ∧ (T f).2.2.2 = false
theorem aw_Fw.F {own : String} {idx ci f t : Nat} (h : aw_Fw own idx ci f t) : aw_F own idx ci f t := by
  obtain ⟨C, T, N, ty, h1, h2, h3, h4, -⟩ := h
  exact ⟨C, T, N, ty, h1, h2, h3, h4⟩
theorem aw_kd0 {ty : FieldType} (h : aw_kd ty = 0) : ty = .int := by
  cases ty <;> first | rfl | simp [aw_kd] at h
theorem aw_kd1 {ty : FieldType} (h : aw_kd ty = 1) : ty = .long := by
  cases ty <;> first | rfl | simp [aw_kd] at h
theorem aw_kd3 {ty : FieldType} (h : aw_kd ty = 3) : ty = .boolean := by
  cases ty <;> first | rfl | simp [aw_kd] at h
theorem aw_putI {idx i ci f : Nat} {x : Int32} (hd : decode (aw_cc M) pc = .ok (.putfield idx, 3)) (hf : aw_Fw (aw_y M).cls idx ci f 0) (hi : aw_is Ω i (.inl ci)) (hN : aw_nx Ω = N0 + k) (kk : AW G M N0 d mc ms Q Ω (aw_up I i f x) J k n lv (pc + 3) st) : AW G M N0 d mc ms Q Ω I J k n lv pc (.int x :: .ref (aw_ad G i) :: st) := by
  intro p e R s m args below meth c H locs ls Z hF hl hR hS hE
  have hfa := hf.F.at
  obtain ⟨C, T, N, ty, ⟨hc, hin, hty, hnm, hft⟩, hk, hw, ht, hfin⟩ := hf
  have hi2 := aw_kd0 ht
  refine va_put hF.1 hF.2.1 hF.2.2.2.2.2.2.1 hin ty hty hnm hF.2.2.2.2.2.1 hF.2.2.2.2.2.2.2.1.1 hR.1 aw_Dd hS i (aw_E_obj hi) hc f hk (hF.2.2.2.2.2.2.1 _ hw) (fun _ h => h) hfin (ty := .int) (v := .int x) (by rw [hty f hk, hi2]) rfl rfl (by rw [aw_fl_len]; exact (List.getElem?_eq_some_iff.mp hfa).1) hd (fun H1 locs1 hP1 hD1 hS1 => ?_)
  have e1 : (aw_ws G Ω I J).set i (aw_ad G i, .inr (ci, (aw_fl (aw_val G Ω I J i) 0 (aw_fty ci)).set f (.int x))) = aw_ws G Ω (aw_up I i f x) J := by
    refine aw_set ?_ (fun j hj => aw_E_cong (aw_up_off I x hj) rfl)
    have e2 := aw_fl_set (aw_val G Ω I J i) (aw_val G Ω (aw_up I i f x) J i) (aw_fty ci) 0 f 0 hfa (fun j t' hj => by simp only [aw_val]; rw [aw_up_ne I x (Or.inr (by omega))])
    simp only [Nat.zero_add] at e2
    have e3 : aw_val G Ω (aw_up I i f x) J i f 0 = .int x := by simp [aw_val, aw_up_self]
    rw [e3] at e2
    rw [e2]
    simp only [aw_E, hi.2]
  rw [e1] at hP1
  intro T2 hT2 X
  exact kk p e R s m args below meth c H1 locs1 ls Z hF hl ⟨hP1, aw_sz X hT2 hF.2.2.2.2.2.2.2.2.2.2.2.2.2.1 hN hS1.1 hP1⟩ hS1 hE T2 hT2 X
theorem aw_putZ {idx i ci f : Nat} {x : Int32} (hd : decode (aw_cc M) pc = .ok (.putfield idx, 3)) (hf : aw_Fw (aw_y M).cls idx ci f 3) (hi : aw_is Ω i (.inl ci)) (hx : x = 0 ∨ x = 1) (hN : aw_nx Ω = N0 + k) (kk : AW G M N0 d mc ms Q Ω (aw_up I i f x) J k n lv (pc + 3) st) : AW G M N0 d mc ms Q Ω I J k n lv pc (.int x :: .ref (aw_ad G i) :: st) := by
  intro p e R s m args below meth c H locs ls Z hF hl hR hS hE
  have hfa := hf.F.at
  obtain ⟨C, T, N, ty, ⟨hc, hin, hty, hnm, hft⟩, hk, hw, ht, hfin⟩ := hf
  have hi2 := aw_kd3 ht
  refine va_put hF.1 hF.2.1 hF.2.2.2.2.2.2.1 hin ty hty hnm hF.2.2.2.2.2.1 hF.2.2.2.2.2.2.2.1.1 hR.1 aw_Dd hS i (aw_E_obj hi) hc f hk (hF.2.2.2.2.2.2.1 _ hw) (fun _ h => h) hfin (ty := .boolean) (v := .int x) (by rw [hty f hk, hi2]) (by rcases hx with rfl | rfl <;> decide) (by rcases hx with rfl | rfl <;> decide) (by rw [aw_fl_len]; exact (List.getElem?_eq_some_iff.mp hfa).1) hd (fun H1 locs1 hP1 hD1 hS1 => ?_)
  have e1 : (aw_ws G Ω I J).set i (aw_ad G i, .inr (ci, (aw_fl (aw_val G Ω I J i) 0 (aw_fty ci)).set f (.int x))) = aw_ws G Ω (aw_up I i f x) J := by
    refine aw_set ?_ (fun j hj => aw_E_cong (aw_up_off I x hj) rfl)
    have e2 := aw_fl_set (aw_val G Ω I J i) (aw_val G Ω (aw_up I i f x) J i) (aw_fty ci) 0 f 3 hfa (fun j t' hj => by simp only [aw_val]; rw [aw_up_ne I x (Or.inr (by omega))])
    simp only [Nat.zero_add] at e2
    have e3 : aw_val G Ω (aw_up I i f x) J i f 3 = .int x := by simp [aw_val, aw_up_self]
    rw [e3] at e2
    rw [e2]
    simp only [aw_E, hi.2]
  rw [e1] at hP1
  intro T2 hT2 X
  exact kk p e R s m args below meth c H1 locs1 ls Z hF hl ⟨hP1, aw_sz X hT2 hF.2.2.2.2.2.2.2.2.2.2.2.2.2.1 hN hS1.1 hP1⟩ hS1 hE T2 hT2 X
theorem aw_putJ {idx i ci f : Nat} {x : Int64} (hd : decode (aw_cc M) pc = .ok (.putfield idx, 3)) (hf : aw_Fw (aw_y M).cls idx ci f 1) (hi : aw_is Ω i (.inl ci)) (hN : aw_nx Ω = N0 + k) (kk : AW G M N0 d mc ms Q Ω I (aw_up J i f x) k n lv (pc + 3) st) : AW G M N0 d mc ms Q Ω I J k n lv pc (.long x :: .ref (aw_ad G i) :: st) := by
  intro p e R s m args below meth c H locs ls Z hF hl hR hS hE
  have hfa := hf.F.at
  obtain ⟨C, T, N, ty, ⟨hc, hin, hty, hnm, hft⟩, hk, hw, ht, hfin⟩ := hf
  have hi2 := aw_kd1 ht
  refine va_put hF.1 hF.2.1 hF.2.2.2.2.2.2.1 hin ty hty hnm hF.2.2.2.2.2.1 hF.2.2.2.2.2.2.2.1.1 hR.1 aw_Dd hS i (aw_E_obj hi) hc f hk (hF.2.2.2.2.2.2.1 _ hw) (fun _ h => h) hfin (ty := .long) (v := .long x) (by rw [hty f hk, hi2]) rfl rfl (by rw [aw_fl_len]; exact (List.getElem?_eq_some_iff.mp hfa).1) hd (fun H1 locs1 hP1 hD1 hS1 => ?_)
  have e1 : (aw_ws G Ω I J).set i (aw_ad G i, .inr (ci, (aw_fl (aw_val G Ω I J i) 0 (aw_fty ci)).set f (.long x))) = aw_ws G Ω I (aw_up J i f x) := by
    refine aw_set ?_ (fun j hj => aw_E_cong rfl (aw_up_off J x hj))
    have e2 := aw_fl_set (aw_val G Ω I J i) (aw_val G Ω I (aw_up J i f x) i) (aw_fty ci) 0 f 1 hfa (fun j t' hj => by simp only [aw_val]; rw [aw_up_ne J x (Or.inr (by omega))])
    simp only [Nat.zero_add] at e2
    have e3 : aw_val G Ω I (aw_up J i f x) i f 1 = .long x := by simp [aw_val, aw_up_self]
    rw [e3] at e2
    rw [e2]
    simp only [aw_E, hi.2]
  rw [e1] at hP1
  intro T2 hT2 X
  exact kk p e R s m args below meth c H1 locs1 ls Z hF hl ⟨hP1, aw_sz X hT2 hF.2.2.2.2.2.2.2.2.2.2.2.2.2.1 hN hS1.1 hP1⟩ hS1 hE T2 hT2 X
theorem aw_iald {i N j : Nat} {x : Int32} (hd : decode (aw_cc M) pc = .ok (.iaload, 1)) (hi : aw_is Ω i (.inr (0, N))) (hx : x = nI j) (hj : j < N) (kk : AW G M N0 d mc ms Q Ω I J k n lv (pc + 1) (.int (I i j) :: st)) (hN : N ≤ 1000 := by decide) : AW G M N0 d mc ms Q Ω I J k n lv pc (.int x :: .ref (aw_ad G i) :: st) := by
  intro p e R s m args below meth c H locs ls Z hF hl hR hS hE
  subst hx
  obtain ⟨h1, h2⟩ := aw_nIc hj hN
  refine va_iald hF.1 hF.2.1 hF.2.2.2.2.2.2.2.1.1 hR.1 i 0 (aw_E_int hi) rfl h1 hd ?_
  rw [h2]
  exact kk p e R s m args below meth c H locs ls Z hF hl hR hS hE
theorem aw_lald {i N j : Nat} {x : Int32} (hd : decode (aw_cc M) pc = .ok (.laload, 1)) (hi : aw_is Ω i (.inr (1, N))) (hx : x = nI j) (hj : j < N) (kk : AW G M N0 d mc ms Q Ω I J k n lv (pc + 1) (.long (J i j) :: st)) (hN : N ≤ 1000 := by decide) : AW G M N0 d mc ms Q Ω I J k n lv pc (.int x :: .ref (aw_ad G i) :: st) := by
  intro p e R s m args below meth c H locs ls Z hF hl hR hS hE
  subst hx
  obtain ⟨h1, h2⟩ := aw_nIc hj hN
  refine va_lald hF.1 hF.2.1 hF.2.2.2.2.2.2.2.1.1 hR.1 i 1 (aw_E_lng hi) rfl h1 hd ?_
  rw [h2]
  exact kk p e R s m args below meth c H locs ls Z hF hl hR hS hE
theorem aw_aald {i N j r : Nat} {x : Int32} (hd : decode (aw_cc M) pc = .ok (.aaload, 1)) (hi : aw_is Ω i (.inr (2, N))) (hx : x = nI j) (hj : j < N) (hr : aw_P Ω i j = some r) (kk : AW G M N0 d mc ms Q Ω I J k n lv (pc + 1) (.ref (aw_ad G r) :: st)) (hN : N ≤ 1000 := by decide) : AW G M N0 d mc ms Q Ω I J k n lv pc (.int x :: .ref (aw_ad G i) :: st) := by
  intro p e R s m args below meth c H locs ls Z hF hl hR hS hE
  subst hx
  obtain ⟨h1, h2⟩ := aw_nIc hj hN
  refine W.aald (v := .ref (aw_ad G r)) (ty := .array .long) hF.1 hF.2.1 (hR.1 i _ (aw_E_row hi)) ((hF.2.2.2.2.2.2.2.1.1.2 2 _ rfl).1 N (fun j => va_rf ((aw_P Ω i j).map (aw_ad G)))) rfl (fun q => by cases q) (by show ¬ (nI j < 0 ∨ (arrV _ _ _).slots.size ≤ _); rw [arrV_size]; exact h1) (by show (arrV _ _ _).slots[_]? = _; rw [h2, arrV_read _ _ hj]; show some (va_rf (Option.map (aw_ad G) (aw_P Ω i j))) = _; rw [hr]; rfl) rfl rfl hd ?_
  exact kk p e R s m args below meth c H locs ls Z hF hl hR hS hE
theorem aw_alen {i N t : Nat} (hd : decode (aw_cc M) pc = .ok (.arraylength, 1)) (hi : aw_is Ω i (.inr (t, N))) (kk : AW G M N0 d mc ms Q Ω I J k n lv (pc + 1) (.int (nI N) :: st)) (ht : t < 2 := by decide) : AW G M N0 d mc ms Q Ω I J k n lv pc (.ref (aw_ad G i) :: st) := by
  intro p e R s m args below meth c H locs ls Z hF hl hR hS hE
  have kk2 := kk p e R s m args below meth c H locs ls Z hF hl hR hS hE
  match t, hi, ht with
  | 0, hi, _ => exact va_alen hF.1 hF.2.1 hF.2.2.2.2.2.2.2.1.1 hR.1 i 0 (aw_E_int hi) rfl rfl hd kk2
  | 1, hi, _ => exact va_alen hF.1 hF.2.1 hF.2.2.2.2.2.2.2.1.1 hR.1 i 1 (aw_E_lng hi) rfl rfl hd kk2
  | t + 2, hi, ht => exact absurd ht (by omega)
theorem aw_iast {i N j : Nat} {x y : Int32} (hd : decode (aw_cc M) pc = .ok (.iastore, 1)) (hi : aw_is Ω i (.inr (0, N))) (hx : x = nI j) (hj : j < N) (hN0 : aw_nx Ω = N0 + k) (kk : AW G M N0 d mc ms Q Ω (aw_up I i j y) J k n lv (pc + 1) st) (hN : N ≤ 1000 := by decide) : AW G M N0 d mc ms Q Ω I J k n lv pc (.int y :: .int x :: .ref (aw_ad G i) :: st) := by
  intro p e R s m args below meth c H locs ls Z hF hl hR hS hE
  subst hx
  obtain ⟨h1, h2⟩ := aw_nIc hj hN
  refine va_iast hF.1 hF.2.1 hF.2.2.2.2.2.2.2.1.1 hR.1 aw_Dd hS i 0 (aw_E_int hi) rfl h1 hd (fun H1 locs1 hP1 hD1 hS1 => ?_)
  rw [h2] at hP1
  have e1 : (aw_ws G Ω I J).set i (aw_ad G i, .inl (aw_cI G, N, .inl (upd (I i) j y))) = aw_ws G Ω (aw_up I i j y) J := by
    refine aw_set ?_ (fun j' hj' => aw_E_cong (aw_up_off I y hj') rfl)
    simp only [aw_E, hi.2, aw_up_row]
  rw [e1] at hP1
  intro T2 hT2 X
  exact kk p e R s m args below meth c H1 locs1 ls Z hF hl ⟨hP1, aw_sz X hT2 hF.2.2.2.2.2.2.2.2.2.2.2.2.2.1 hN0 hS1.1 hP1⟩ hS1 hE T2 hT2 X
theorem aw_last {i N j : Nat} {x : Int32} {y : Int64} (hd : decode (aw_cc M) pc = .ok (.lastore, 1)) (hi : aw_is Ω i (.inr (1, N))) (hx : x = nI j) (hj : j < N) (hN0 : aw_nx Ω = N0 + k) (kk : AW G M N0 d mc ms Q Ω I (aw_up J i j y) k n lv (pc + 1) st) (hN : N ≤ 1000 := by decide) : AW G M N0 d mc ms Q Ω I J k n lv pc (.long y :: .int x :: .ref (aw_ad G i) :: st) := by
  intro p e R s m args below meth c H locs ls Z hF hl hR hS hE
  subst hx
  obtain ⟨h1, h2⟩ := aw_nIc hj hN
  refine va_last hF.1 hF.2.1 hF.2.2.2.2.2.2.2.1.1 hR.1 aw_Dd hS i 1 (aw_E_lng hi) rfl h1 hd (fun H1 locs1 hP1 hD1 hS1 => ?_)
  rw [h2] at hP1
  have e1 : (aw_ws G Ω I J).set i (aw_ad G i, .inl (aw_cJ G, N, .inr (.inl (vp_updL (J i) j y)))) = aw_ws G Ω I (aw_up J i j y) := by
    refine aw_set ?_ (fun j' hj' => aw_E_cong rfl (aw_up_off J y hj'))
    simp only [aw_E, hi.2, aw_up_rowL]
  rw [e1] at hP1
  intro T2 hT2 X
  exact kk p e R s m args below meth c H1 locs1 ls Z hF hl ⟨hP1, aw_sz X hT2 hF.2.2.2.2.2.2.2.2.2.2.2.2.2.1 hN0 hS1.1 hP1⟩ hS1 hE T2 hT2 X
end AWH
