/-! THE LAYER AW: all cells that the law's run makes, by number; ints and longs in two memories I, J (cell, place); a method's walk without heaps, rooms and frames -/
def aw_tbl : List Cond := lw_tbl.filter goodWord
theorem aw_tbl_sub {w : Cond} (h : w ∈ aw_tbl) : w ∈ lw_tbl := (List.mem_filter.mp h).1
theorem aw_tbl_good {w : Cond} (h : w ∈ aw_tbl) : goodWord w = true := (List.mem_filter.mp h).2
theorem aw_goodIn {ws : List Cond} (h : ∀ w ∈ ws, w ∈ aw_tbl) : GoodIn aw_tbl ws := fun w hw => ⟨h w hw, good_of_word (aw_tbl_good (h w hw))⟩
abbrev classes : List vw_C := [(RX0, TX0, 5), (RX1, TX1, 9), (RX2, TX2, 2), (RX4, TX4, 3), (RX5, TX5, 3), (RX6, TX6, 13), (RX7, TX7, 9), (RX8, TX8, 33)]
/-- the kinds of a class's fields: 0 int, 1 long, 2 a reference, 3 boolean -/
def aw_kd : FieldType → Nat
  | .int => 0
  | .long => 1
  | .boolean => 3
  | _ => 2
def aw_fty : Nat → List Nat
  | 0 => (List.range 5).map (fun k => aw_kd (tyX0 k))
  | 1 => (List.range 9).map (fun k => aw_kd (tyX1 k))
  | 2 => (List.range 2).map (fun k => aw_kd (tyX2 k))
  | 3 => (List.range 3).map (fun k => aw_kd (tyX4 k))
  | 4 => (List.range 3).map (fun k => aw_kd (tyX5 k))
  | 5 => (List.range 13).map (fun k => aw_kd (tyX6 k))
  | 6 => (List.range 9).map (fun k => aw_kd (tyX7 k))
  | _ => (List.range 33).map (fun k => aw_kd (tyX8 k))
/-- a cell's shape: an object of class number ci, or an array: (0, n) of ints, (1, n) of longs, (2, n) of references -/
abbrev aw_S : Type := Nat ⊕ (Nat × Nat)
/-- the world: shapes, references, how many cells -/
abbrev aw_O : Type := (Nat → aw_S) × (Nat → Nat → Option Nat) × Nat
def aw_sh (Ω : aw_O) (i : Nat) : aw_S := Ω.1 i
def aw_P (Ω : aw_O) (i k : Nat) : Option Nat := Ω.2.1 i k
def aw_nx (Ω : aw_O) : Nat := Ω.2.2
/-- the launch, class numbers and slots, the classes of int[], long[], long[][], the first address -/
abbrev aw_G : Type := Launch × va_G × ClassId × ClassId × ClassId × Nat
abbrev aw_l (G : aw_G) : Launch := G.1
abbrev aw_D (G : aw_G) : va_G := G.2.1
abbrev aw_cI (G : aw_G) : ClassId := G.2.2.1
abbrev aw_cJ (G : aw_G) : ClassId := G.2.2.2.1
abbrev aw_cR (G : aw_G) : ClassId := G.2.2.2.2.1
abbrev aw_bs (G : aw_G) : Nat := G.2.2.2.2.2
def aw_ad (G : aw_G) (i : Nat) : Nat := aw_bs G + i
abbrev aw_A (G : aw_G) : Nat → Prop := fun q => aw_bs G ≤ q
abbrev aw_MI : Type := Nat → Nat → Int32
abbrev aw_MJ : Type := Nat → Nat → Int64
abbrev aw_tys (G : aw_G) : List (ClassId × FieldType) := [(aw_cI G, .int), (aw_cJ G, .long), (aw_cR G, .array .long)]
def aw_val (G : aw_G) (Ω : aw_O) (I : aw_MI) (J : aw_MJ) (i k t : Nat) : Value := if t = 1 then .long (J i k) else if t = 2 then va_rf ((aw_P Ω i k).map (aw_ad G)) else .int (I i k)
def aw_fl (f : Nat → Nat → Value) : Nat → List Nat → List Value
  | _, [] => []
  | k, t :: ts => f k t :: aw_fl f (k + 1) ts
theorem aw_fl_get (f : Nat → Nat → Value) : ∀ (ts : List Nat) (s k t : Nat), ts[k]? = some t → (aw_fl f s ts)[k]? = some (f (s + k) t)
  | [], s, k, t, h => by simp at h
  | a :: ts, s, 0, t, h => by
    simp at h
    subst h
    simp [aw_fl]
  | a :: ts, s, k + 1, t, h => by
    simp only [List.getElem?_cons_succ] at h
    simp only [aw_fl, List.getElem?_cons_succ]
    rw [aw_fl_get f ts (s + 1) k t h]
    congr 2
    omega
theorem aw_fl_len (f : Nat → Nat → Value) : ∀ (ts : List Nat) (s : Nat), (aw_fl f s ts).length = ts.length
  | [], _ => rfl
  | a :: ts, s => by simp [aw_fl, aw_fl_len f ts (s + 1)]
theorem aw_fl_congr (f g : Nat → Nat → Value) : ∀ (ts : List Nat) (s : Nat), (∀ j t', s ≤ j → f j t' = g j t') → aw_fl f s ts = aw_fl g s ts
  | [], _, _ => rfl
  | a :: ts, s, h => by
    simp only [aw_fl]
    rw [h s a (Nat.le_refl s), aw_fl_congr f g ts (s + 1) (fun j t' hj => h j t' (by omega))]
theorem aw_fl_set (f g : Nat → Nat → Value) : ∀ (ts : List Nat) (s k t : Nat), ts[k]? = some t → (∀ j t', j ≠ s + k → g j t' = f j t') → (aw_fl f s ts).set k (g (s + k) t) = aw_fl g s ts
  | [], s, k, t, h, _ => by simp at h
  | a :: ts, s, 0, t, h, hg => by
    simp at h
    subst h
    simp only [aw_fl, List.set_cons_zero]
    congr 1
    exact aw_fl_congr f g ts (s + 1) (fun j t' hj => (hg j t' (by omega)).symm)
  | a :: ts, s, k + 1, t, h, hg => by
    simp only [List.getElem?_cons_succ] at h
    simp only [aw_fl, List.set_cons_succ]
    have e : s + (k + 1) = (s + 1) + k := by omega
    rw [e, aw_fl_set f g ts (s + 1) k t h (fun j t' hj => hg j t' (by omega)), hg s a (by omega)]
def aw_E (G : aw_G) (Ω : aw_O) (I : aw_MI) (J : aw_MJ) (i : Nat) : va_E := match aw_sh Ω i with
  | .inl ci => .inr (ci, aw_fl (aw_val G Ω I J i) 0 (aw_fty ci))
  | .inr (0, n) => .inl (aw_cI G, n, .inl (I i))
  | .inr (1, n) => .inl (aw_cJ G, n, .inr (.inl (J i)))
  | .inr (_, n) => .inl (aw_cR G, n, .inr (.inr (.inr (.inr (fun k => (aw_P Ω i k).map (aw_ad G))))))
def aw_ws (G : aw_G) (Ω : aw_O) (I : aw_MI) (J : aw_MJ) : va_W := (List.range (aw_nx Ω)).map (fun i => (aw_ad G i, aw_E G Ω I J i))
theorem aw_at {G : aw_G} {Ω : aw_O} {I : aw_MI} {J : aw_MJ} {i : Nat} (h : i < aw_nx Ω) : (aw_ws G Ω I J)[i]? = some (aw_ad G i, aw_E G Ω I J i) := by
  simp [aw_ws, h]
theorem aw_set {G : aw_G} {Ω : aw_O} {I I' : aw_MI} {J J' : aw_MJ} {i : Nat} {e : va_E} (he : e = aw_E G Ω I' J' i) (ho : ∀ j, j ≠ i → aw_E G Ω I' J' j = aw_E G Ω I J j) : (aw_ws G Ω I J).set i (aw_ad G i, e) = aw_ws G Ω I' J' := by
  apply List.ext_getElem?
  intro j
  by_cases hj : j < aw_nx Ω
  · by_cases hji : j = i
    · subst hji
      rw [List.getElem?_set_self (by simp [aw_ws, hj]), aw_at hj, he]
    · rw [List.getElem?_set_ne (Ne.symm hji), aw_at hj, aw_at hj, ho j hji]
  · rw [List.getElem?_eq_none (by simp [aw_ws]; omega), List.getElem?_eq_none (by simp [aw_ws]; omega)]
/-- a place of a memory gets another number -/
def aw_up {α : Type} (I : Nat → Nat → α) (i j : Nat) (x : α) : Nat → Nat → α := fun a k => if a = i ∧ k = j then x else I a k
theorem aw_up_self {α : Type} (I : Nat → Nat → α) (i j : Nat) (x : α) : aw_up I i j x i j = x := by simp [aw_up]
theorem aw_up_ne {α : Type} (I : Nat → Nat → α) {i j a k : Nat} (x : α) (h : a ≠ i ∨ k ≠ j) : aw_up I i j x a k = I a k := by
  unfold aw_up
  rw [if_neg]
  rintro ⟨h1, h2⟩
  rcases h with h | h
  · exact h h1
  · exact h h2
theorem aw_up_off {α : Type} (I : Nat → Nat → α) {i j a : Nat} (x : α) (h : a ≠ i) : aw_up I i j x a = I a := funext fun k => aw_up_ne I x (Or.inl h)
/-- n numbers of cell s from place sp on go to cell t from place dp on -/
def aw_cp {α : Type} (I : Nat → Nat → α) (s t sp dp n : Nat) : Nat → Nat → α := fun a k => if a = t ∧ dp ≤ k ∧ k < dp + n then I s (sp + (k - dp)) else I a k
theorem aw_cp_off {α : Type} (I : Nat → Nat → α) {s t sp dp n a : Nat} (h : a ≠ t) : aw_cp I s t sp dp n a = I a := funext fun k => by
  unfold aw_cp
  rw [if_neg]
  exact fun q => h q.1
/-- what is known of the tables -/
def aw_nest : List Cond := [.methodLinkNest RX7 9 yX1_init RX7, .methodLinkNest RX7 50 yX0_init RX7, .methodLinkNest RX6 11 yX4_init RX7, .methodLinkNest RX2 11 yX4_init RX7]
def aw_K (G : aw_G) (U : State) : Prop := va_K (aw_D G) classes (aw_tys G) U ∧ (∀ w ∈ aw_nest, va_Nw w U) ∧ (Cond.arrayOver (.array .long)).before #[] U = true
def aw_R (G : aw_G) (Ω : aw_O) (I : aw_MI) (J : aw_MJ) (H : Heap) : Prop := va_P (aw_D G) classes (aw_ws G Ω I J) H ∧ H.size = aw_bs G + aw_nx Ω
/-- a method: its name, code, locals, what it returns, scripts that it was given -/
abbrev aw_M : Type := MethodName × ByteArray × Nat × Option FieldType × List (Nat × Nat × (Nat → Int32))
abbrev aw_y (M : aw_M) : MethodName := M.1
abbrev aw_cc (M : aw_M) : ByteArray := M.2.1
abbrev aw_nL (M : aw_M) : Nat := M.2.2.1
abbrev aw_rt (M : aw_M) : Option FieldType := M.2.2.2.1
abbrev aw_scr (M : aw_M) : List (Nat × Nat × (Nat → Int32)) := M.2.2.2.2
/-- locals by their places; .null: nothing known -/
def aw_al : Nat → List Value → List (Nat × Value)
  | _, [] => []
  | i, v :: r => if v = .null then aw_al (i + 1) r else (i, v) :: aw_al (i + 1) r
theorem aw_al_mem : ∀ (l : List Value) (s j : Nat) (w : Value), (j, w) ∈ aw_al s l ↔ s ≤ j ∧ l[j - s]? = some w ∧ w ≠ .null
  | [], s, j, w => by simp [aw_al]
  | v :: r, s, j, w => by
    have ih := aw_al_mem r (s + 1) j w
    by_cases hv : v = .null
    · simp only [aw_al, hv, if_true, ih]
      constructor
      · rintro ⟨h1, h2, h3⟩
        refine ⟨by omega, ?_, h3⟩
        rw [show j - s = (j - (s + 1)) + 1 by omega, List.getElem?_cons_succ]
        exact h2
      · rintro ⟨h1, h2, h3⟩
        by_cases hj : j = s
        · subst hj
          simp at h2
          exact absurd h2.symm h3
        · refine ⟨by omega, ?_, h3⟩
          rw [show j - s = (j - (s + 1)) + 1 by omega, List.getElem?_cons_succ] at h2
          exact h2
    · simp only [aw_al, hv, if_false, List.mem_cons, ih, Prod.mk.injEq]
      constructor
      · rintro (⟨h1, h2⟩ | ⟨h1, h2, h3⟩)
        · subst h1
          subst h2
          simp [hv]
        · refine ⟨by omega, ?_, h3⟩
          rw [show j - s = (j - (s + 1)) + 1 by omega, List.getElem?_cons_succ]
          exact h2
      · rintro ⟨h1, h2, h3⟩
        by_cases hj : j = s
        · subst hj
          simp at h2
          exact Or.inl ⟨rfl, h2.symm⟩
        · refine Or.inr ⟨by omega, ?_, h3⟩
          rw [show j - s = (j - (s + 1)) + 1 by omega, List.getElem?_cons_succ] at h2
          exact h2
def aw_L (ls : Array Slot) (nL : Nat) (lv : List Value) : Prop := lv_has ls nL (aw_al 0 lv)
theorem aw_L_at {ls : Array Slot} {nL : Nat} {lv : List Value} (h : aw_L ls nL lv) {i : Nat} {v : Value} (hi : lv[i]? = some v) (hv : v ≠ .null) : ls[i]? = some (.val v) := h.2.2 (i, v) ((aw_al_mem lv 0 i v).mpr ⟨Nat.zero_le _, hi, hv⟩)
/-- a long that ends at place i is no more -/
def aw_kl (lv : List Value) : Nat → List Value
  | 0 => lv
  | i + 1 => match lv[i]? with
    | some (.long _) => lv.set i .null
    | some (.double _) => lv.set i .null
    | _ => lv
def aw_st1 (lv : List Value) (i : Nat) (v : Value) : List Value := (aw_kl lv i).set i v
def aw_st2 (lv : List Value) (i : Nat) (v : Value) : List Value := ((aw_kl lv i).set i v).set (i + 1) .null
theorem aw_kl_ne {lv : List Value} {i j : Nat} {w : Value} (h : (aw_kl lv i)[j]? = some w) (hw : w ≠ .null) : lv[j]? = some w ∧ ¬ (j + 1 = i ∧ w.category = 2) := by
  cases i with
  | zero => exact ⟨h, by omega⟩
  | succ i =>
    have key : ∀ x : Value, lv[i]? = some x → (lv.set i .null)[j]? = some w → lv[j]? = some w ∧ ¬ (j + 1 = i + 1 ∧ w.category = 2) := by
      intro x hx h2
      by_cases hj : j = i
      · subst hj
        rw [List.getElem?_set_self (List.getElem?_eq_some_iff.mp hx).1] at h2
        exact absurd (Option.some.inj h2).symm hw
      · rw [List.getElem?_set_ne (Ne.symm hj)] at h2
        exact ⟨h2, fun q => hj (by omega)⟩
    simp only [aw_kl] at h
    split at h
    next x hx => exact key _ hx h
    next x hx => exact key _ hx h
    next h1 h2 =>
      refine ⟨h, ?_⟩
      rintro ⟨e, hc⟩
      have e2 : j = i := by omega
      subst e2
      cases w with
      | long x => exact h1 x h
      | double x => exact h2 x h
      | int x => cases hc
      | float x => cases hc
      | null => cases hc
      | ref x => cases hc
      | retAddr x => cases hc
theorem aw_L_st1 {ls' : Array Slot} {nL i : Nat} {lv : List Value} {v : Value} (h : lv_has ls' nL ((i, v) :: (aw_al 0 lv).filter (fun q => !(q.1 == i) && !(q.1 + 1 == i && q.2.category == 2)))) : aw_L ls' nL (aw_st1 lv i v) := by
  refine ⟨h.1, h.2.1, fun q hq => ?_⟩
  obtain ⟨j, w⟩ := q
  obtain ⟨-, h2, h3⟩ := (aw_al_mem _ 0 j w).mp hq
  simp only [Nat.sub_zero, aw_st1] at h2
  refine h.2.2 (j, w) ?_
  by_cases hj : j = i
  · subst hj
    have hl : j < (aw_kl lv j).length := by
      have := (List.getElem?_eq_some_iff.mp h2).1
      simpa using this
    rw [List.getElem?_set_self hl] at h2
    rw [Option.some.inj h2]
    exact List.mem_cons_self
  · rw [List.getElem?_set_ne (Ne.symm hj)] at h2
    obtain ⟨h4, h5⟩ := aw_kl_ne h2 h3
    refine List.mem_cons_of_mem _ (List.mem_filter.mpr ⟨(aw_al_mem lv 0 j w).mpr ⟨Nat.zero_le _, h4, h3⟩, ?_⟩)
    simp only [Bool.and_eq_true, Bool.not_eq_true', beq_eq_false_iff_ne, ne_eq, hj, not_false_eq_true, true_and, Bool.and_eq_false_iff]
    by_cases hc : j + 1 = i
    · exact Or.inr (fun q => h5 ⟨hc, q⟩)
    · exact Or.inl hc
theorem aw_L_st2 {ls' : Array Slot} {nL i : Nat} {lv : List Value} {v : Value} (h : lv_has ls' nL ((i, v) :: (aw_al 0 lv).filter (fun q => !(q.1 == i) && (!(q.1 == i + 1) && !(q.1 + 1 == i && q.2.category == 2))))) : aw_L ls' nL (aw_st2 lv i v) := by
  refine ⟨h.1, h.2.1, fun q hq => ?_⟩
  obtain ⟨j, w⟩ := q
  obtain ⟨-, h2, h3⟩ := (aw_al_mem _ 0 j w).mp hq
  simp only [Nat.sub_zero, aw_st2] at h2
  refine h.2.2 (j, w) ?_
  by_cases hj1 : j = i + 1
  · subst hj1
    have hl : i + 1 < ((aw_kl lv i).set i v).length := by
      have := (List.getElem?_eq_some_iff.mp h2).1
      simpa using this
    rw [List.getElem?_set_self hl] at h2
    exact absurd (Option.some.inj h2).symm h3
  · rw [List.getElem?_set_ne (Ne.symm hj1)] at h2
    by_cases hj : j = i
    · subst hj
      have hl : j < (aw_kl lv j).length := by
        have := (List.getElem?_eq_some_iff.mp h2).1
        simpa using this
      rw [List.getElem?_set_self hl] at h2
      rw [Option.some.inj h2]
      exact List.mem_cons_self
    · rw [List.getElem?_set_ne (Ne.symm hj)] at h2
      obtain ⟨h4, h5⟩ := aw_kl_ne h2 h3
      refine List.mem_cons_of_mem _ (List.mem_filter.mpr ⟨(aw_al_mem lv 0 j w).mpr ⟨Nat.zero_le _, h4, h3⟩, ?_⟩)
      simp only [Bool.and_eq_true, Bool.not_eq_true', beq_eq_false_iff_ne, ne_eq, hj, hj1, not_false_eq_true, true_and, Bool.and_eq_false_iff]
      by_cases hc : j + 1 = i
      · exact Or.inr (fun q => h5 ⟨hc, q⟩)
      · exact Or.inl hc
/-- the locals with which a method begins -/
def aw_in : List Value → List Value
  | [] => []
  | v :: r => if v.category = 2 then v :: .null :: aw_in r else v :: aw_in r
theorem aw_in_mem : ∀ (vs : List Value) (s : Nat) (q : Nat × Value), q ∈ aw_al s (aw_in vs) → q ∈ lv_args s vs
  | [], s, q, h => by simp [aw_in, aw_al] at h
  | v :: r, s, q, h => by
    unfold aw_in at h
    unfold lv_args
    by_cases hc : v.category = 2
    · simp only [hc, if_true] at h ⊢
      have hv : v ≠ .null := fun e => by rw [e] at hc; cases hc
      simp only [aw_al, hv, if_false, if_true, List.mem_cons] at h ⊢
      rcases h with h | h
      · exact Or.inl h
      · exact Or.inr (aw_in_mem r (s + 2) q h)
    · simp only [hc, if_false] at h ⊢
      by_cases hv : v = .null
      · simp only [aw_al, hv, if_true] at h
        exact List.mem_cons_of_mem _ (aw_in_mem r (s + 1) q h)
      · simp only [aw_al, hv, if_false, List.mem_cons] at h ⊢
        rcases h with h | h
        · exact Or.inl h
        · exact Or.inr (aw_in_mem r (s + 1) q h)
/-- nothing known of the places behind the arguments -/
theorem aw_al_app : ∀ (l : List Value) (s n : Nat) (q : Nat × Value), q ∈ aw_al s (l ++ List.replicate n .null) → q ∈ aw_al s l
  | [], s, n, q, h => by
    obtain ⟨j, w⟩ := q
    obtain ⟨-, h2, h3⟩ := (aw_al_mem _ s j w).mp h
    have := List.mem_of_getElem? h2
    simp at this
    exact absurd this.2 h3
  | v :: r, s, n, q, h => by
    simp only [List.cons_append] at h
    unfold aw_al at h ⊢
    by_cases hv : v = .null
    · simp only [hv, if_true] at h ⊢
      exact aw_al_app r (s + 1) n q h
    · simp only [hv, if_false, List.mem_cons] at h ⊢
      rcases h with h | h
      · exact Or.inl h
      · exact Or.inr (aw_al_app r (s + 1) n q h)

/-- what stands fast while a method runs -/
def aw_Fix (G : aw_G) (M : aw_M) (N0 d mc ms : Nat) (p : Program) (R : Room) (s : State) (m : MethodId) (args : Array Value) (meth : Method) (c : Code) : Prop :=
  p.tables.exec = Jvm.exec ∧ c.code = aw_cc M ∧ meth.sig.returnType = aw_rt M ∧ meth.locks = false ∧ c.maxLocals = aw_nL M ∧ s.vm.findClass (aw_y M).cls = some m.cls ∧ (∀ w ∈ aw_tbl, w.before args s = true) ∧ aw_K G s ∧ meth.name = (aw_y M).name ∧
  d ≤ R.frames ∧ 64 * d ≤ R.locals ∧ mc ≤ R.cells ∧ ms ≤ R.slots ∧ s.heap.size = aw_bs G + N0 ∧ ∀ q ∈ aw_scr M, va_X q.1 q.2.1 q.2.2 s s.heap ∧ q.1 < aw_bs G ∧ q.1 < s.heap.size
def aw_rok (M : aw_M) (v : Option Value) (pc : Nat) : Prop :=
  (∃ x : Int32, v = some (.int x) ∧ decode (aw_cc M) pc = .ok (.ireturn, 1) ∧ ∃ ty, aw_rt M = some ty ∧ narrow ty (.int x) = .int x) ∨ (∃ x : Int64, v = some (.long x) ∧ decode (aw_cc M) pc = .ok (.lreturn, 1) ∧ aw_rt M = some .long) ∨ (v = none ∧ decode (aw_cc M) pc = .ok (.return_, 1) ∧ aw_rt M = none)
abbrev aw_Q : Type := Option Value → aw_O → aw_MI → aw_MJ → Prop
def aw_End (G : aw_G) (M : aw_M) (mc ms : Nat) (Q : aw_Q) (p : Program) (e : Env) (R : Room) (s : State) (m : MethodId) (args : Array Value) (below : List Frame) (meth : Method) (c : Code) (Z : State → Prop) : Prop :=
  ∀ (v : Option Value) (Ω : aw_O) (I : aw_MI) (J : aw_MJ) (H : Heap) (locs : List Loc) (k n : Nat) (pc : Nat) (ls : Array Slot), Q v Ω I J → aw_R G Ω I J H → va_S (aw_A G) s.heap H locs → k ≤ mc → n ≤ ms → aw_rok M v pc → W p (aw_l G) e R s m args below meth c H locs k n Z (F0 m pc ls v.toList)
/-- at place pc, with the memories I, J, the locals lv, the stack st: the method comes to its end with Q -/
def AW (G : aw_G) (M : aw_M) (N0 d mc ms : Nat) (Q : aw_Q) (Ω : aw_O) (I : aw_MI) (J : aw_MJ) (k n : Nat) (lv : List Value) (pc : Nat) (st : List Value) : Prop :=
  ∀ (p : Program) (e : Env) (R : Room) (s : State) (m : MethodId) (args : Array Value) (below : List Frame) (meth : Method) (c : Code) (H : Heap) (locs : List Loc) (ls : Array Slot) (Z : State → Prop), aw_Fix G M N0 d mc ms p R s m args meth c → aw_L ls (aw_nL M) lv → aw_R G Ω I J H → va_S (aw_A G) s.heap H locs → aw_End G M mc ms Q p e R s m args below meth c Z → W p (aw_l G) e R s m args below meth c H locs k n Z (F0 m pc ls st)
section AWR
variable {G : aw_G} {M : aw_M} {N0 d mc ms : Nat} {Q : aw_Q} {Ω : aw_O} {I : aw_MI} {J : aw_MJ} {k n : Nat} {lv : List Value} {pc : Nat} {st : List Value}

theorem aw_iconst {z : Int} {v : Int32} (hd : decode (aw_cc M) pc = .ok (.iconst z, 1)) (hv : Int32.ofInt z = v) (kk : AW G M N0 d mc ms Q Ω I J k n lv (pc + 1) (.int v :: st)) : AW G M N0 d mc ms Q Ω I J k n lv pc (st) := by
  intro p e R s m args below meth c H locs ls Z hF hl hR hS hE
  exact lv_iconst hF.1 hF.2.1 hd hv (kk p e R s m args below meth c H locs ls Z hF hl hR hS hE)
theorem aw_bipush {z : Int} {v : Int32} (hd : decode (aw_cc M) pc = .ok (.bipush z, 2)) (hv : (Int8.ofInt z).toInt32 = v) (kk : AW G M N0 d mc ms Q Ω I J k n lv (pc + 2) (.int v :: st)) : AW G M N0 d mc ms Q Ω I J k n lv pc (st) := by
  intro p e R s m args below meth c H locs ls Z hF hl hR hS hE
  exact lv_bipush hF.1 hF.2.1 hd hv (kk p e R s m args below meth c H locs ls Z hF hl hR hS hE)
theorem aw_sipush {z : Int} {v : Int32} (hd : decode (aw_cc M) pc = .ok (.sipush z, 3)) (hv : (Int16.ofInt z).toInt32 = v) (kk : AW G M N0 d mc ms Q Ω I J k n lv (pc + 3) (.int v :: st)) : AW G M N0 d mc ms Q Ω I J k n lv pc (st) := by
  intro p e R s m args below meth c H locs ls Z hF hl hR hS hE
  exact lv_sipush hF.1 hF.2.1 hd hv (kk p e R s m args below meth c H locs ls Z hF hl hR hS hE)
theorem aw_lconst {z : Fin 2} {v : Int64} (hd : decode (aw_cc M) pc = .ok (.lconst z, 1)) (hv : Int64.ofNat (z : Nat) = v) (kk : AW G M N0 d mc ms Q Ω I J k n lv (pc + 1) (.long v :: st)) : AW G M N0 d mc ms Q Ω I J k n lv pc (st) := by
  intro p e R s m args below meth c H locs ls Z hF hl hR hS hE
  exact lv_lconst hF.1 hF.2.1 hd hv (kk p e R s m args below meth c H locs ls Z hF hl hR hS hE)
theorem aw_iload_n {z : Fin 4} {x : Int32} (hd : decode (aw_cc M) pc = .ok (.iload_n z, 1)) (hg : lv[(z : Nat)]? = some (.int x)) (kk : AW G M N0 d mc ms Q Ω I J k n lv (pc + 1) (.int x :: st)) : AW G M N0 d mc ms Q Ω I J k n lv pc (st) := by
  intro p e R s m args below meth c H locs ls Z hF hl hR hS hE
  exact lv_iload_n hF.1 hF.2.1 hd rfl (aw_L_at hl hg (fun q => by cases q)) (kk p e R s m args below meth c H locs ls Z hF hl hR hS hE)
theorem aw_iload {i : Nat} {x : Int32} (hd : decode (aw_cc M) pc = .ok (.iload i, 2)) (hg : lv[i]? = some (.int x)) (kk : AW G M N0 d mc ms Q Ω I J k n lv (pc + 2) (.int x :: st)) : AW G M N0 d mc ms Q Ω I J k n lv pc (st) := by
  intro p e R s m args below meth c H locs ls Z hF hl hR hS hE
  exact lv_iload hF.1 hF.2.1 hd (aw_L_at hl hg (fun q => by cases q)) (kk p e R s m args below meth c H locs ls Z hF hl hR hS hE)
theorem aw_lload_n {z : Fin 4} {x : Int64} (hd : decode (aw_cc M) pc = .ok (.lload_n z, 1)) (hg : lv[(z : Nat)]? = some (.long x)) (kk : AW G M N0 d mc ms Q Ω I J k n lv (pc + 1) (.long x :: st)) : AW G M N0 d mc ms Q Ω I J k n lv pc (st) := by
  intro p e R s m args below meth c H locs ls Z hF hl hR hS hE
  exact lv_lload_n hF.1 hF.2.1 hd rfl (aw_L_at hl hg (fun q => by cases q)) (kk p e R s m args below meth c H locs ls Z hF hl hR hS hE)
theorem aw_lload {i : Nat} {x : Int64} (hd : decode (aw_cc M) pc = .ok (.lload i, 2)) (hg : lv[i]? = some (.long x)) (kk : AW G M N0 d mc ms Q Ω I J k n lv (pc + 2) (.long x :: st)) : AW G M N0 d mc ms Q Ω I J k n lv pc (st) := by
  intro p e R s m args below meth c H locs ls Z hF hl hR hS hE
  exact lv_lload hF.1 hF.2.1 hd (aw_L_at hl hg (fun q => by cases q)) (kk p e R s m args below meth c H locs ls Z hF hl hR hS hE)
theorem aw_aload_n {z : Fin 4} {a : Nat} (hd : decode (aw_cc M) pc = .ok (.aload_n z, 1)) (hg : lv[(z : Nat)]? = some (.ref a)) (kk : AW G M N0 d mc ms Q Ω I J k n lv (pc + 1) (.ref a :: st)) : AW G M N0 d mc ms Q Ω I J k n lv pc (st) := by
  intro p e R s m args below meth c H locs ls Z hF hl hR hS hE
  exact lv_aload_n hF.1 hF.2.1 hd rfl (aw_L_at hl hg (fun q => by cases q)) (kk p e R s m args below meth c H locs ls Z hF hl hR hS hE)
theorem aw_aload {i : Nat} {a : Nat} (hd : decode (aw_cc M) pc = .ok (.aload i, 2)) (hg : lv[i]? = some (.ref a)) (kk : AW G M N0 d mc ms Q Ω I J k n lv (pc + 2) (.ref a :: st)) : AW G M N0 d mc ms Q Ω I J k n lv pc (st) := by
  intro p e R s m args below meth c H locs ls Z hF hl hR hS hE
  exact lv_aload hF.1 hF.2.1 hd (aw_L_at hl hg (fun q => by cases q)) (kk p e R s m args below meth c H locs ls Z hF hl hR hS hE)
theorem aw_istore_n {z : Fin 4} {x : Int32} (hd : decode (aw_cc M) pc = .ok (.istore_n z, 1)) (hn : (z : Nat) < aw_nL M) (kk : AW G M N0 d mc ms Q Ω I J k n (aw_st1 lv (z : Nat) (.int x)) (pc + 1) st) : AW G M N0 d mc ms Q Ω I J k n lv pc (.int x :: st) := by
  intro p e R s m args below meth c H locs ls Z hF hl hR hS hE
  exact lv_istore_n hF.1 hF.2.1 hd rfl hl hn rfl (fun ls' hl' => kk p e R s m args below meth c H locs ls' Z hF (aw_L_st1 hl') hR hS hE)
theorem aw_istore {i : Nat} {x : Int32} (hd : decode (aw_cc M) pc = .ok (.istore i, 2)) (hn : i < aw_nL M) (kk : AW G M N0 d mc ms Q Ω I J k n (aw_st1 lv i (.int x)) (pc + 2) st) : AW G M N0 d mc ms Q Ω I J k n lv pc (.int x :: st) := by
  intro p e R s m args below meth c H locs ls Z hF hl hR hS hE
  exact lv_istore hF.1 hF.2.1 hd hl hn rfl (fun ls' hl' => kk p e R s m args below meth c H locs ls' Z hF (aw_L_st1 hl') hR hS hE)
theorem aw_lstore_n {z : Fin 4} {x : Int64} (hd : decode (aw_cc M) pc = .ok (.lstore_n z, 1)) (hn : (z : Nat) + 1 < aw_nL M) (kk : AW G M N0 d mc ms Q Ω I J k n (aw_st2 lv (z : Nat) (.long x)) (pc + 1) st) : AW G M N0 d mc ms Q Ω I J k n lv pc (.long x :: st) := by
  intro p e R s m args below meth c H locs ls Z hF hl hR hS hE
  exact lv_lstore_n hF.1 hF.2.1 hd rfl hl hn rfl (fun ls' hl' => kk p e R s m args below meth c H locs ls' Z hF (aw_L_st2 hl') hR hS hE)
theorem aw_lstore {i : Nat} {x : Int64} (hd : decode (aw_cc M) pc = .ok (.lstore i, 2)) (hn : i + 1 < aw_nL M) (kk : AW G M N0 d mc ms Q Ω I J k n (aw_st2 lv i (.long x)) (pc + 2) st) : AW G M N0 d mc ms Q Ω I J k n lv pc (.long x :: st) := by
  intro p e R s m args below meth c H locs ls Z hF hl hR hS hE
  exact lv_lstore hF.1 hF.2.1 hd hl hn rfl (fun ls' hl' => kk p e R s m args below meth c H locs ls' Z hF (aw_L_st2 hl') hR hS hE)
theorem aw_astore_n {z : Fin 4} {x : Nat} (hd : decode (aw_cc M) pc = .ok (.astore_n z, 1)) (hn : (z : Nat) < aw_nL M) (kk : AW G M N0 d mc ms Q Ω I J k n (aw_st1 lv (z : Nat) (.ref x)) (pc + 1) st) : AW G M N0 d mc ms Q Ω I J k n lv pc (.ref x :: st) := by
  intro p e R s m args below meth c H locs ls Z hF hl hR hS hE
  exact lv_astore_n hF.1 hF.2.1 hd rfl hl hn rfl (fun ls' hl' => kk p e R s m args below meth c H locs ls' Z hF (aw_L_st1 hl') hR hS hE)
theorem aw_astore {i : Nat} {x : Nat} (hd : decode (aw_cc M) pc = .ok (.astore i, 2)) (hn : i < aw_nL M) (kk : AW G M N0 d mc ms Q Ω I J k n (aw_st1 lv i (.ref x)) (pc + 2) st) : AW G M N0 d mc ms Q Ω I J k n lv pc (.ref x :: st) := by
  intro p e R s m args below meth c H locs ls Z hF hl hR hS hE
  exact lv_astore hF.1 hF.2.1 hd hl hn rfl (fun ls' hl' => kk p e R s m args below meth c H locs ls' Z hF (aw_L_st1 hl') hR hS hE)
theorem aw_iinc {i : Nat} {z : Int} {x v : Int32} (hd : decode (aw_cc M) pc = .ok (.iinc i z, 3)) (hg : lv[i]? = some (.int x)) (hv : x + Int32.ofInt z = v) (hn : i < aw_nL M) (kk : AW G M N0 d mc ms Q Ω I J k n (aw_st1 lv i (.int v)) (pc + 3) st) : AW G M N0 d mc ms Q Ω I J k n lv pc st := by
  intro p e R s m args below meth c H locs ls Z hF hl hR hS hE
  obtain ⟨j, hj⟩ := List.getElem?_of_mem ((aw_al_mem lv 0 i (.int x)).mpr ⟨Nat.zero_le _, hg, fun q => by cases q⟩)
  exact lv_iinc hF.1 hF.2.1 hd hl hj hv hn rfl (fun ls' hl' => kk p e R s m args below meth c H locs ls' Z hF (aw_L_st1 hl') hR hS hE)
theorem aw_iadd {x y : Int32} (hd : decode (aw_cc M) pc = .ok (.iadd, 1)) (kk : AW G M N0 d mc ms Q Ω I J k n lv (pc + 1) (.int (x + y) :: st)) : AW G M N0 d mc ms Q Ω I J k n lv pc (.int y :: .int x :: st) := by
  intro p e R s m args below meth c H locs ls Z hF hl hR hS hE
  exact lv_iadd hF.1 hF.2.1 hd (kk p e R s m args below meth c H locs ls Z hF hl hR hS hE)
theorem aw_isub {x y : Int32} (hd : decode (aw_cc M) pc = .ok (.isub, 1)) (kk : AW G M N0 d mc ms Q Ω I J k n lv (pc + 1) (.int (x - y) :: st)) : AW G M N0 d mc ms Q Ω I J k n lv pc (.int y :: .int x :: st) := by
  intro p e R s m args below meth c H locs ls Z hF hl hR hS hE
  exact lv_isub hF.1 hF.2.1 hd (kk p e R s m args below meth c H locs ls Z hF hl hR hS hE)
theorem aw_imul {x y : Int32} (hd : decode (aw_cc M) pc = .ok (.imul, 1)) (kk : AW G M N0 d mc ms Q Ω I J k n lv (pc + 1) (.int (x * y) :: st)) : AW G M N0 d mc ms Q Ω I J k n lv pc (.int y :: .int x :: st) := by
  intro p e R s m args below meth c H locs ls Z hF hl hR hS hE
  exact lv_imul hF.1 hF.2.1 hd (kk p e R s m args below meth c H locs ls Z hF hl hR hS hE)
theorem aw_iand {x y : Int32} (hd : decode (aw_cc M) pc = .ok (.iand, 1)) (kk : AW G M N0 d mc ms Q Ω I J k n lv (pc + 1) (.int (x &&& y) :: st)) : AW G M N0 d mc ms Q Ω I J k n lv pc (.int y :: .int x :: st) := by
  intro p e R s m args below meth c H locs ls Z hF hl hR hS hE
  exact lv_iand hF.1 hF.2.1 hd (kk p e R s m args below meth c H locs ls Z hF hl hR hS hE)
theorem aw_ior {x y : Int32} (hd : decode (aw_cc M) pc = .ok (.ior, 1)) (kk : AW G M N0 d mc ms Q Ω I J k n lv (pc + 1) (.int (x ||| y) :: st)) : AW G M N0 d mc ms Q Ω I J k n lv pc (.int y :: .int x :: st) := by
  intro p e R s m args below meth c H locs ls Z hF hl hR hS hE
  exact lv_ior hF.1 hF.2.1 hd (kk p e R s m args below meth c H locs ls Z hF hl hR hS hE)
theorem aw_ixor {x y : Int32} (hd : decode (aw_cc M) pc = .ok (.ixor, 1)) (kk : AW G M N0 d mc ms Q Ω I J k n lv (pc + 1) (.int (x ^^^ y) :: st)) : AW G M N0 d mc ms Q Ω I J k n lv pc (.int y :: .int x :: st) := by
  intro p e R s m args below meth c H locs ls Z hF hl hR hS hE
  exact lv_ixor hF.1 hF.2.1 hd (kk p e R s m args below meth c H locs ls Z hF hl hR hS hE)
theorem aw_ishl {x y : Int32} (hd : decode (aw_cc M) pc = .ok (.ishl, 1)) (kk : AW G M N0 d mc ms Q Ω I J k n lv (pc + 1) (.int (x <<< (y &&& 31)) :: st)) : AW G M N0 d mc ms Q Ω I J k n lv pc (.int y :: .int x :: st) := by
  intro p e R s m args below meth c H locs ls Z hF hl hR hS hE
  exact lv_ishl hF.1 hF.2.1 hd (kk p e R s m args below meth c H locs ls Z hF hl hR hS hE)
theorem aw_ishr {x y : Int32} (hd : decode (aw_cc M) pc = .ok (.ishr, 1)) (kk : AW G M N0 d mc ms Q Ω I J k n lv (pc + 1) (.int (x >>> (y &&& 31)) :: st)) : AW G M N0 d mc ms Q Ω I J k n lv pc (.int y :: .int x :: st) := by
  intro p e R s m args below meth c H locs ls Z hF hl hR hS hE
  exact lv_ishr hF.1 hF.2.1 hd (kk p e R s m args below meth c H locs ls Z hF hl hR hS hE)
theorem aw_iushr {x y : Int32} (hd : decode (aw_cc M) pc = .ok (.iushr, 1)) (kk : AW G M N0 d mc ms Q Ω I J k n lv (pc + 1) (.int ((x.toUInt32 >>> (y.toUInt32 &&& Int32.toUInt32 31)).toInt32) :: st)) : AW G M N0 d mc ms Q Ω I J k n lv pc (.int y :: .int x :: st) := by
  intro p e R s m args below meth c H locs ls Z hF hl hR hS hE
  exact lv_iushr hF.1 hF.2.1 hd rfl (kk p e R s m args below meth c H locs ls Z hF hl hR hS hE)
theorem aw_irem {x y : Int32} (hd : decode (aw_cc M) pc = .ok (.irem, 1)) (hy : ¬ y = 0) (kk : AW G M N0 d mc ms Q Ω I J k n lv (pc + 1) (.int (x - x / y * y) :: st)) : AW G M N0 d mc ms Q Ω I J k n lv pc (.int y :: .int x :: st) := by
  intro p e R s m args below meth c H locs ls Z hF hl hR hS hE
  exact lv_irem hF.1 hF.2.1 hd hy (kk p e R s m args below meth c H locs ls Z hF hl hR hS hE)
theorem aw_ineg {x : Int32} (hd : decode (aw_cc M) pc = .ok (.ineg, 1)) (kk : AW G M N0 d mc ms Q Ω I J k n lv (pc + 1) (.int (-x) :: st)) : AW G M N0 d mc ms Q Ω I J k n lv pc (.int x :: st) := by
  intro p e R s m args below meth c H locs ls Z hF hl hR hS hE
  exact lv_ineg hF.1 hF.2.1 hd (kk p e R s m args below meth c H locs ls Z hF hl hR hS hE)
theorem aw_ladd {x y : Int64} (hd : decode (aw_cc M) pc = .ok (.ladd, 1)) (kk : AW G M N0 d mc ms Q Ω I J k n lv (pc + 1) (.long (x + y) :: st)) : AW G M N0 d mc ms Q Ω I J k n lv pc (.long y :: .long x :: st) := by
  intro p e R s m args below meth c H locs ls Z hF hl hR hS hE
  exact lv_ladd hF.1 hF.2.1 hd (kk p e R s m args below meth c H locs ls Z hF hl hR hS hE)
theorem aw_lsub {x y : Int64} (hd : decode (aw_cc M) pc = .ok (.lsub, 1)) (kk : AW G M N0 d mc ms Q Ω I J k n lv (pc + 1) (.long (x - y) :: st)) : AW G M N0 d mc ms Q Ω I J k n lv pc (.long y :: .long x :: st) := by
  intro p e R s m args below meth c H locs ls Z hF hl hR hS hE
  exact lv_lsub hF.1 hF.2.1 hd (kk p e R s m args below meth c H locs ls Z hF hl hR hS hE)
theorem aw_lmul {x y : Int64} (hd : decode (aw_cc M) pc = .ok (.lmul, 1)) (kk : AW G M N0 d mc ms Q Ω I J k n lv (pc + 1) (.long (x * y) :: st)) : AW G M N0 d mc ms Q Ω I J k n lv pc (.long y :: .long x :: st) := by
  intro p e R s m args below meth c H locs ls Z hF hl hR hS hE
  exact lv_lmul hF.1 hF.2.1 hd (kk p e R s m args below meth c H locs ls Z hF hl hR hS hE)
theorem aw_land {x y : Int64} (hd : decode (aw_cc M) pc = .ok (.land, 1)) (kk : AW G M N0 d mc ms Q Ω I J k n lv (pc + 1) (.long (x &&& y) :: st)) : AW G M N0 d mc ms Q Ω I J k n lv pc (.long y :: .long x :: st) := by
  intro p e R s m args below meth c H locs ls Z hF hl hR hS hE
  exact lv_land hF.1 hF.2.1 hd (kk p e R s m args below meth c H locs ls Z hF hl hR hS hE)
theorem aw_lor {x y : Int64} (hd : decode (aw_cc M) pc = .ok (.lor, 1)) (kk : AW G M N0 d mc ms Q Ω I J k n lv (pc + 1) (.long (x ||| y) :: st)) : AW G M N0 d mc ms Q Ω I J k n lv pc (.long y :: .long x :: st) := by
  intro p e R s m args below meth c H locs ls Z hF hl hR hS hE
  exact lv_lor hF.1 hF.2.1 hd (kk p e R s m args below meth c H locs ls Z hF hl hR hS hE)
theorem aw_lxor {x y : Int64} (hd : decode (aw_cc M) pc = .ok (.lxor, 1)) (kk : AW G M N0 d mc ms Q Ω I J k n lv (pc + 1) (.long (x ^^^ y) :: st)) : AW G M N0 d mc ms Q Ω I J k n lv pc (.long y :: .long x :: st) := by
  intro p e R s m args below meth c H locs ls Z hF hl hR hS hE
  exact lv_lxor hF.1 hF.2.1 hd (kk p e R s m args below meth c H locs ls Z hF hl hR hS hE)
theorem aw_ldiv {x y : Int64} (hd : decode (aw_cc M) pc = .ok (.ldiv, 1)) (hy : ¬ y = 0) (kk : AW G M N0 d mc ms Q Ω I J k n lv (pc + 1) (.long (x / y) :: st)) : AW G M N0 d mc ms Q Ω I J k n lv pc (.long y :: .long x :: st) := by
  intro p e R s m args below meth c H locs ls Z hF hl hR hS hE
  exact lv_ldiv hF.1 hF.2.1 hd hy (kk p e R s m args below meth c H locs ls Z hF hl hR hS hE)
theorem aw_lrem {x y : Int64} (hd : decode (aw_cc M) pc = .ok (.lrem, 1)) (hy : ¬ y = 0) (kk : AW G M N0 d mc ms Q Ω I J k n lv (pc + 1) (.long (x - x / y * y) :: st)) : AW G M N0 d mc ms Q Ω I J k n lv pc (.long y :: .long x :: st) := by
  intro p e R s m args below meth c H locs ls Z hF hl hR hS hE
  exact lv_lrem hF.1 hF.2.1 hd hy (kk p e R s m args below meth c H locs ls Z hF hl hR hS hE)
theorem aw_lneg {x : Int64} (hd : decode (aw_cc M) pc = .ok (.lneg, 1)) (kk : AW G M N0 d mc ms Q Ω I J k n lv (pc + 1) (.long (-x) :: st)) : AW G M N0 d mc ms Q Ω I J k n lv pc (.long x :: st) := by
  intro p e R s m args below meth c H locs ls Z hF hl hR hS hE
  exact lv_lneg hF.1 hF.2.1 hd (kk p e R s m args below meth c H locs ls Z hF hl hR hS hE)
theorem aw_lshl {x : Int64} {y : Int32} (hd : decode (aw_cc M) pc = .ok (.lshl, 1)) (kk : AW G M N0 d mc ms Q Ω I J k n lv (pc + 1) (.long (x <<< (y.toInt64 &&& 63)) :: st)) : AW G M N0 d mc ms Q Ω I J k n lv pc (.int y :: .long x :: st) := by
  intro p e R s m args below meth c H locs ls Z hF hl hR hS hE
  exact lv_lshl hF.1 hF.2.1 hd rfl (kk p e R s m args below meth c H locs ls Z hF hl hR hS hE)
theorem aw_lshr {x : Int64} {y : Int32} (hd : decode (aw_cc M) pc = .ok (.lshr, 1)) (kk : AW G M N0 d mc ms Q Ω I J k n lv (pc + 1) (.long (x >>> (y.toInt64 &&& 63)) :: st)) : AW G M N0 d mc ms Q Ω I J k n lv pc (.int y :: .long x :: st) := by
  intro p e R s m args below meth c H locs ls Z hF hl hR hS hE
  exact lv_lshr hF.1 hF.2.1 hd rfl (kk p e R s m args below meth c H locs ls Z hF hl hR hS hE)
theorem aw_i2l {x : Int32} (hd : decode (aw_cc M) pc = .ok (.i2l, 1)) (kk : AW G M N0 d mc ms Q Ω I J k n lv (pc + 1) (.long x.toInt64 :: st)) : AW G M N0 d mc ms Q Ω I J k n lv pc (.int x :: st) := by
  intro p e R s m args below meth c H locs ls Z hF hl hR hS hE
  exact lv_i2l hF.1 hF.2.1 hd rfl (kk p e R s m args below meth c H locs ls Z hF hl hR hS hE)
theorem aw_l2i {x : Int64} (hd : decode (aw_cc M) pc = .ok (.l2i, 1)) (kk : AW G M N0 d mc ms Q Ω I J k n lv (pc + 1) (.int x.toInt32 :: st)) : AW G M N0 d mc ms Q Ω I J k n lv pc (.long x :: st) := by
  intro p e R s m args below meth c H locs ls Z hF hl hR hS hE
  exact lv_l2i hF.1 hF.2.1 hd rfl (kk p e R s m args below meth c H locs ls Z hF hl hR hS hE)
theorem aw_i2b {x : Int32} (hd : decode (aw_cc M) pc = .ok (.i2b, 1)) (kk : AW G M N0 d mc ms Q Ω I J k n lv (pc + 1) (.int x.toInt8.toInt32 :: st)) : AW G M N0 d mc ms Q Ω I J k n lv pc (.int x :: st) := by
  intro p e R s m args below meth c H locs ls Z hF hl hR hS hE
  exact lv_i2b hF.1 hF.2.1 hd rfl (kk p e R s m args below meth c H locs ls Z hF hl hR hS hE)
theorem aw_lcmp {x y : Int64} (hd : decode (aw_cc M) pc = .ok (.lcmp, 1)) (kk : AW G M N0 d mc ms Q Ω I J k n lv (pc + 1) (.int (lg_cmp x y) :: st)) : AW G M N0 d mc ms Q Ω I J k n lv pc (.long y :: .long x :: st) := by
  intro p e R s m args below meth c H locs ls Z hF hl hR hS hE
  exact W.lcmp hF.1 hF.2.1 hd (kk p e R s m args below meth c H locs ls Z hF hl hR hS hE)
theorem aw_dup {v : Value} (hd : decode (aw_cc M) pc = .ok (.dup, 1)) (hv : v.category = 1) (kk : AW G M N0 d mc ms Q Ω I J k n lv (pc + 1) (v :: v :: st)) : AW G M N0 d mc ms Q Ω I J k n lv pc (v :: st) := by
  intro p e R s m args below meth c H locs ls Z hF hl hR hS hE
  exact lv_dup hF.1 hF.2.1 hd hv (kk p e R s m args below meth c H locs ls Z hF hl hR hS hE)
theorem aw_pop {v : Value} (hd : decode (aw_cc M) pc = .ok (.pop, 1)) (hv : v.category = 1) (kk : AW G M N0 d mc ms Q Ω I J k n lv (pc + 1) (st)) : AW G M N0 d mc ms Q Ω I J k n lv pc (v :: st) := by
  intro p e R s m args below meth c H locs ls Z hF hl hR hS hE
  exact lv_pop hF.1 hF.2.1 hd hv (kk p e R s m args below meth c H locs ls Z hF hl hR hS hE)
theorem aw_goto {off : Int} {t : Nat} (hd : decode (aw_cc M) pc = .ok (.goto off, 3)) (ht : (pc : Int) + off = (t : Int)) (kk : AW G M N0 d mc ms Q Ω I J k n lv (t) (st)) : AW G M N0 d mc ms Q Ω I J k n lv pc (st) := by
  intro p e R s m args below meth c H locs ls Z hF hl hR hS hE
  exact lv_goto hF.1 hF.2.1 hd ht (kk p e R s m args below meth c H locs ls Z hF hl hR hS hE)
theorem aw_ldcw {idx : Nat} {v : Int32} (hd : decode (aw_cc M) pc = .ok (.ldc_w idx, 3)) (hw : Cond.constant (aw_y M).cls idx v ∈ aw_tbl) (kk : AW G M N0 d mc ms Q Ω I J k n lv (pc + 3) (.int v :: st)) : AW G M N0 d mc ms Q Ω I J k n lv pc (st) := by
  intro p e R s m args below meth c H locs ls Z hF hl hR hS hE
  exact lv_ldcw hF.1 hF.2.1 hF.2.2.2.2.2.1 (hF.2.2.2.2.2.2.1 _ hw) hd (kk p e R s m args below meth c H locs ls Z hF hl hR hS hE)
theorem aw_ldc2 {idx : Nat} {v : Int64} (hd : decode (aw_cc M) pc = .ok (.ldc2_w idx, 3)) (hw : Cond.constantLong (aw_y M).cls idx v ∈ aw_tbl) (kk : AW G M N0 d mc ms Q Ω I J k n lv (pc + 3) (.long v :: st)) : AW G M N0 d mc ms Q Ω I J k n lv pc (st) := by
  intro p e R s m args below meth c H locs ls Z hF hl hR hS hE
  exact lv_ldc2 hF.1 hF.2.1 hF.2.2.2.2.2.1 (hF.2.2.2.2.2.2.1 _ hw) hd (kk p e R s m args below meth c H locs ls Z hF hl hR hS hE)
theorem aw_if_eq {x : Int32} {off : Int} {t : Nat} (hd : decode (aw_cc M) pc = .ok (.ifCond .eq off, 3)) (ht : (pc : Int) + off = (t : Int)) (kt : x = 0 → AW G M N0 d mc ms Q Ω I J k n lv t st) (kf : ¬ x = 0 → AW G M N0 d mc ms Q Ω I J k n lv (pc + 3) st) : AW G M N0 d mc ms Q Ω I J k n lv pc (.int x :: st) := by
  intro p e R s m args below meth c H locs ls Z hF hl hR hS hE
  exact lv_if_eq hF.1 hF.2.1 hd ht (fun q => kt q p e R s m args below meth c H locs ls Z hF hl hR hS hE) (fun q => kf q p e R s m args below meth c H locs ls Z hF hl hR hS hE)
theorem aw_if_ne {x : Int32} {off : Int} {t : Nat} (hd : decode (aw_cc M) pc = .ok (.ifCond .ne off, 3)) (ht : (pc : Int) + off = (t : Int)) (kt : ¬ x = 0 → AW G M N0 d mc ms Q Ω I J k n lv t st) (kf : x = 0 → AW G M N0 d mc ms Q Ω I J k n lv (pc + 3) st) : AW G M N0 d mc ms Q Ω I J k n lv pc (.int x :: st) := by
  intro p e R s m args below meth c H locs ls Z hF hl hR hS hE
  exact lv_if_ne hF.1 hF.2.1 hd ht (fun q => kt q p e R s m args below meth c H locs ls Z hF hl hR hS hE) (fun q => kf q p e R s m args below meth c H locs ls Z hF hl hR hS hE)
theorem aw_if_lt {x : Int32} {off : Int} {t : Nat} (hd : decode (aw_cc M) pc = .ok (.ifCond .lt off, 3)) (ht : (pc : Int) + off = (t : Int)) (kt : x < 0 → AW G M N0 d mc ms Q Ω I J k n lv t st) (kf : ¬ x < 0 → AW G M N0 d mc ms Q Ω I J k n lv (pc + 3) st) : AW G M N0 d mc ms Q Ω I J k n lv pc (.int x :: st) := by
  intro p e R s m args below meth c H locs ls Z hF hl hR hS hE
  exact lv_if_lt hF.1 hF.2.1 hd ht (fun q => kt q p e R s m args below meth c H locs ls Z hF hl hR hS hE) (fun q => kf q p e R s m args below meth c H locs ls Z hF hl hR hS hE)
theorem aw_if_ge {x : Int32} {off : Int} {t : Nat} (hd : decode (aw_cc M) pc = .ok (.ifCond .ge off, 3)) (ht : (pc : Int) + off = (t : Int)) (kt : 0 ≤ x → AW G M N0 d mc ms Q Ω I J k n lv t st) (kf : ¬ 0 ≤ x → AW G M N0 d mc ms Q Ω I J k n lv (pc + 3) st) : AW G M N0 d mc ms Q Ω I J k n lv pc (.int x :: st) := by
  intro p e R s m args below meth c H locs ls Z hF hl hR hS hE
  exact lv_if_ge hF.1 hF.2.1 hd ht (fun q => kt q p e R s m args below meth c H locs ls Z hF hl hR hS hE) (fun q => kf q p e R s m args below meth c H locs ls Z hF hl hR hS hE)
theorem aw_if_gt {x : Int32} {off : Int} {t : Nat} (hd : decode (aw_cc M) pc = .ok (.ifCond .gt off, 3)) (ht : (pc : Int) + off = (t : Int)) (kt : 0 < x → AW G M N0 d mc ms Q Ω I J k n lv t st) (kf : ¬ 0 < x → AW G M N0 d mc ms Q Ω I J k n lv (pc + 3) st) : AW G M N0 d mc ms Q Ω I J k n lv pc (.int x :: st) := by
  intro p e R s m args below meth c H locs ls Z hF hl hR hS hE
  exact lv_if_gt hF.1 hF.2.1 hd ht (fun q => kt q p e R s m args below meth c H locs ls Z hF hl hR hS hE) (fun q => kf q p e R s m args below meth c H locs ls Z hF hl hR hS hE)
theorem aw_if_le {x : Int32} {off : Int} {t : Nat} (hd : decode (aw_cc M) pc = .ok (.ifCond .le off, 3)) (ht : (pc : Int) + off = (t : Int)) (kt : x ≤ 0 → AW G M N0 d mc ms Q Ω I J k n lv t st) (kf : ¬ x ≤ 0 → AW G M N0 d mc ms Q Ω I J k n lv (pc + 3) st) : AW G M N0 d mc ms Q Ω I J k n lv pc (.int x :: st) := by
  intro p e R s m args below meth c H locs ls Z hF hl hR hS hE
  exact lv_if_le hF.1 hF.2.1 hd ht (fun q => kt q p e R s m args below meth c H locs ls Z hF hl hR hS hE) (fun q => kf q p e R s m args below meth c H locs ls Z hF hl hR hS hE)
theorem aw_icmp_eq {x y : Int32} {off : Int} {t : Nat} (hd : decode (aw_cc M) pc = .ok (.if_icmp .eq off, 3)) (ht : (pc : Int) + off = (t : Int)) (kt : x = y → AW G M N0 d mc ms Q Ω I J k n lv t st) (kf : ¬ x = y → AW G M N0 d mc ms Q Ω I J k n lv (pc + 3) st) : AW G M N0 d mc ms Q Ω I J k n lv pc (.int y :: .int x :: st) := by
  intro p e R s m args below meth c H locs ls Z hF hl hR hS hE
  exact lv_icmp_eq hF.1 hF.2.1 hd ht (fun q => kt q p e R s m args below meth c H locs ls Z hF hl hR hS hE) (fun q => kf q p e R s m args below meth c H locs ls Z hF hl hR hS hE)
theorem aw_icmp_ne {x y : Int32} {off : Int} {t : Nat} (hd : decode (aw_cc M) pc = .ok (.if_icmp .ne off, 3)) (ht : (pc : Int) + off = (t : Int)) (kt : ¬ x = y → AW G M N0 d mc ms Q Ω I J k n lv t st) (kf : x = y → AW G M N0 d mc ms Q Ω I J k n lv (pc + 3) st) : AW G M N0 d mc ms Q Ω I J k n lv pc (.int y :: .int x :: st) := by
  intro p e R s m args below meth c H locs ls Z hF hl hR hS hE
  exact lv_icmp_ne hF.1 hF.2.1 hd ht (fun q => kt q p e R s m args below meth c H locs ls Z hF hl hR hS hE) (fun q => kf q p e R s m args below meth c H locs ls Z hF hl hR hS hE)
theorem aw_icmp_lt {x y : Int32} {off : Int} {t : Nat} (hd : decode (aw_cc M) pc = .ok (.if_icmp .lt off, 3)) (ht : (pc : Int) + off = (t : Int)) (kt : x < y → AW G M N0 d mc ms Q Ω I J k n lv t st) (kf : ¬ x < y → AW G M N0 d mc ms Q Ω I J k n lv (pc + 3) st) : AW G M N0 d mc ms Q Ω I J k n lv pc (.int y :: .int x :: st) := by
  intro p e R s m args below meth c H locs ls Z hF hl hR hS hE
  exact lv_icmp_lt hF.1 hF.2.1 hd ht (fun q => kt q p e R s m args below meth c H locs ls Z hF hl hR hS hE) (fun q => kf q p e R s m args below meth c H locs ls Z hF hl hR hS hE)
theorem aw_icmp_ge {x y : Int32} {off : Int} {t : Nat} (hd : decode (aw_cc M) pc = .ok (.if_icmp .ge off, 3)) (ht : (pc : Int) + off = (t : Int)) (kt : y ≤ x → AW G M N0 d mc ms Q Ω I J k n lv t st) (kf : ¬ y ≤ x → AW G M N0 d mc ms Q Ω I J k n lv (pc + 3) st) : AW G M N0 d mc ms Q Ω I J k n lv pc (.int y :: .int x :: st) := by
  intro p e R s m args below meth c H locs ls Z hF hl hR hS hE
  exact lv_icmp_ge hF.1 hF.2.1 hd ht (fun q => kt q p e R s m args below meth c H locs ls Z hF hl hR hS hE) (fun q => kf q p e R s m args below meth c H locs ls Z hF hl hR hS hE)
theorem aw_icmp_gt {x y : Int32} {off : Int} {t : Nat} (hd : decode (aw_cc M) pc = .ok (.if_icmp .gt off, 3)) (ht : (pc : Int) + off = (t : Int)) (kt : y < x → AW G M N0 d mc ms Q Ω I J k n lv t st) (kf : ¬ y < x → AW G M N0 d mc ms Q Ω I J k n lv (pc + 3) st) : AW G M N0 d mc ms Q Ω I J k n lv pc (.int y :: .int x :: st) := by
  intro p e R s m args below meth c H locs ls Z hF hl hR hS hE
  exact lv_icmp_gt hF.1 hF.2.1 hd ht (fun q => kt q p e R s m args below meth c H locs ls Z hF hl hR hS hE) (fun q => kf q p e R s m args below meth c H locs ls Z hF hl hR hS hE)
theorem aw_icmp_le {x y : Int32} {off : Int} {t : Nat} (hd : decode (aw_cc M) pc = .ok (.if_icmp .le off, 3)) (ht : (pc : Int) + off = (t : Int)) (kt : x ≤ y → AW G M N0 d mc ms Q Ω I J k n lv t st) (kf : ¬ x ≤ y → AW G M N0 d mc ms Q Ω I J k n lv (pc + 3) st) : AW G M N0 d mc ms Q Ω I J k n lv pc (.int y :: .int x :: st) := by
  intro p e R s m args below meth c H locs ls Z hF hl hR hS hE
  exact lv_icmp_le hF.1 hF.2.1 hd ht (fun q => kt q p e R s m args below meth c H locs ls Z hF hl hR hS hE) (fun q => kf q p e R s m args below meth c H locs ls Z hF hl hR hS hE)
end AWR
