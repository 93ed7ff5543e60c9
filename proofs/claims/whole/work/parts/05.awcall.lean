/-! THE LAYER AW: a method's end, its beginning, calls -/
def aw_rm (d mc ms : Nat) : Room := { frames := d, cells := mc, slots := ms, locals := 64 * d }
def aw_Qc (G : aw_G) (Q : aw_Q) : Array Value → State → Outcome → State → Prop := fun _ st o t => (∃ (v : Option Value) (Ω : aw_O) (I : aw_MI) (J : aw_MJ), o = .returned v ∧ Q v Ω I J ∧ aw_R G Ω I J t.heap) ∧ va_F (aw_A G) st t
/-- a method's contract: from these memories, with these arguments, it returns with Q -/
def aw_Call (G : aw_G) (M : aw_M) (d mc ms : Nat) (av : List Value) (Ω : aw_O) (I : aw_MI) (J : aw_MJ) (Q : aw_Q) : Prop :=
  Met (aw_l G) (aw_y M) (Cond.code (aw_y M) (aw_cc M) (aw_nL M) (aw_rt M) :: aw_tbl) (aw_rm d mc ms) (va_Pc av (fun U => aw_K G U ∧ aw_R G Ω I J U.heap)) (aw_Qc G Q) mc ms (aw_A G)
def aw_QI (Q : Int32 → aw_O → aw_MI → aw_MJ → Prop) : aw_Q := fun v Ω I J => ∃ x, v = some (.int x) ∧ Q x Ω I J
def aw_QL (Q : Int64 → aw_O → aw_MI → aw_MJ → Prop) : aw_Q := fun v Ω I J => ∃ x, v = some (.long x) ∧ Q x Ω I J
def aw_QV (Q : aw_O → aw_MI → aw_MJ → Prop) : aw_Q := fun v Ω I J => v = none ∧ Q Ω I J
theorem aw_over {s U : State} (hW : s.WarmedH U.vm) (h : (Cond.arrayOver (.array .long)).before #[] s = true) : (Cond.arrayOver (.array .long)).before #[] U = true := by
  have h2 : (Cond.arrayOver (.array .long)).before #[] (s.setVm U.vm) = true := by
    rw [Cond.arrayOver_setVmC hW.alike]
    exact h
  exact h2
theorem aw_K.moved {G : aw_G} {s U : State} (hW : s.WarmedH U.vm) (h : aw_K G s) : aw_K G U := by
  refine ⟨va_K.moved hW.alike h.1, fun w hw => ?_, aw_over hW h.2.2⟩
  have h1 := h.2.1 w hw
  simp only [aw_nest, List.mem_cons, List.not_mem_nil, or_false] at hw
  rcases hw with rfl | rfl | rfl | rfl <;> exact va_Nw.warmM hW h1
section AWE
variable {G : aw_G} {M : aw_M} {N0 d mc ms : Nat} {Ω : aw_O} {I : aw_MI} {J : aw_MJ} {k n : Nat} {lv : List Value} {pc : Nat} {st : List Value}
theorem aw_iret {Q : Int32 → aw_O → aw_MI → aw_MJ → Prop} {x : Int32} (hd : decode (aw_cc M) pc = .ok (.ireturn, 1)) (hr : aw_rt M = some .int) (h : Q x Ω I J) (hk : k ≤ mc) (hn : n ≤ ms) : AW G M N0 d mc ms (aw_QI Q) Ω I J k n lv pc [.int x] := by
  intro p e R s m args below meth c H locs ls Z hF hl hR hS hE
  exact hE (some (.int x)) Ω I J H locs k n pc ls ⟨x, rfl, h⟩ hR hS hk hn (Or.inl ⟨x, rfl, hd, .int, hr, rfl⟩)
theorem aw_zret {Q : Int32 → aw_O → aw_MI → aw_MJ → Prop} {x : Int32} (hd : decode (aw_cc M) pc = .ok (.ireturn, 1)) (hr : aw_rt M = some .boolean) (hx : x = 0 ∨ x = 1) (h : Q x Ω I J) (hk : k ≤ mc) (hn : n ≤ ms) : AW G M N0 d mc ms (aw_QI Q) Ω I J k n lv pc [.int x] := by
  intro p e R s m args below meth c H locs ls Z hF hl hR hS hE
  exact hE (some (.int x)) Ω I J H locs k n pc ls ⟨x, rfl, h⟩ hR hS hk hn (Or.inl ⟨x, rfl, hd, .boolean, hr, by rcases hx with rfl | rfl <;> decide⟩)
theorem aw_lret {Q : Int64 → aw_O → aw_MI → aw_MJ → Prop} {x : Int64} (hd : decode (aw_cc M) pc = .ok (.lreturn, 1)) (hr : aw_rt M = some .long) (h : Q x Ω I J) (hk : k ≤ mc) (hn : n ≤ ms) : AW G M N0 d mc ms (aw_QL Q) Ω I J k n lv pc [.long x] := by
  intro p e R s m args below meth c H locs ls Z hF hl hR hS hE
  exact hE (some (.long x)) Ω I J H locs k n pc ls ⟨x, rfl, h⟩ hR hS hk hn (Or.inr (Or.inl ⟨x, rfl, hd, hr⟩))
theorem aw_vret {Q : aw_O → aw_MI → aw_MJ → Prop} (hd : decode (aw_cc M) pc = .ok (.return_, 1)) (hr : aw_rt M = none) (h : Q Ω I J) (hk : k ≤ mc) (hn : n ≤ ms) : AW G M N0 d mc ms (aw_QV Q) Ω I J k n lv pc [] := by
  intro p e R s m args below meth c H locs ls Z hF hl hR hS hE
  exact hE none Ω I J H locs k n pc ls ⟨rfl, h⟩ hR hS hk hn (Or.inr (Or.inr ⟨rfl, hd, hr⟩))
theorem aw_QI.mono {Q Q' : Int32 → aw_O → aw_MI → aw_MJ → Prop} (h : ∀ x Ω I J, Q x Ω I J → Q' x Ω I J) : ∀ v Ω I J, aw_QI Q v Ω I J → aw_QI Q' v Ω I J := fun _ _ _ _ ⟨x, e, q⟩ => ⟨x, e, h _ _ _ _ q⟩
/-- a method's beginning -/
theorem aw_enter {Q : aw_Q} {av : List Value} (hy : plainName (aw_y M).cls = true) (hsc : aw_scr M = []) (hlen : (lg_sl av).length ≤ aw_nL M) (body : AW G M (aw_nx Ω) d mc ms Q Ω I J 0 0 (aw_in av ++ List.replicate (aw_nL M - (aw_in av).length) .null) 0 []) : aw_Call G M d mc ms av Ω I J Q := by
  refine Met.ofW (cc := aw_cc M) (maxL := aw_nL M) (ret := aw_rt M) hy rfl ?_
  intro p e s m args below meth c s₁ B hml hv
  obtain ⟨rfl, hK, hR⟩ := hv
  have hts := atoms_spec (ws := Cond.code (aw_y M) (aw_cc M) (aw_nL M) (aw_rt M) :: aw_tbl) B.pre
  have hown : s.vm.findClass (aw_y M).cls = some m.cls := findClass_of_methodNamed B.named
  have hnm : meth.name = (aw_y M).name := (name_of_methodNamed B.named B.method).1
  have hl0 := lv_entry av (n := aw_nL M) hlen
  rw [lg_entry_eq]
  generalize (lg_sl av ++ List.replicate (aw_nL M - (lg_sl av).length) Slot.unset).toArray = ls at hl0 ⊢
  have hl : aw_L ls (aw_nL M) (aw_in av ++ List.replicate (aw_nL M - (aw_in av).length) .null) := ⟨hl0.1, hl0.2.1, fun q hq => hl0.2.2 q (aw_in_mem av 0 q (aw_al_app _ 0 _ q hq))⟩
  refine body p e _ s m av.toArray below meth c s.heap [] ls _ ⟨B.exec, B.bytes, B.returns, B.notSynchronized, hml, hown, fun w hw => hts w (List.mem_cons_of_mem _ hw), hK, hnm, Nat.le_refl _, Nat.le_refl _, Nat.le_refl _, Nat.le_refl _, hR.2, fun q hq => by rw [hsc] at hq; cases hq⟩ hl hR va_S.rf ?_
  intro v Ω' I' J' H' locs' k' n' pc' ls' hq hR' hS' hk hn hrok
  refine W.widen (k := mc) (n := ms) hk hn ?_
  have hpost : ∀ t : State, t.heap = H' → aw_Qc G Q av.toArray s (.returned v) t := fun t ht => ⟨⟨v, Ω', I', J', rfl, hq, by rw [ht]; exact hR'⟩, hS'.F ht⟩
  have hlk := B.notSynchronized
  rcases hrok with ⟨x, rfl, hd, ty, hr, hn⟩ | ⟨x, rfl, hd, hr⟩ | ⟨rfl, hd, hr⟩
  · exact W.zret (ty := ty) B.exec B.bytes (B.returns.trans hr) hn (fun t ht _ => hpost t ht) hS'.2.2 hd
  · exact W.lret B.exec B.bytes (B.returns.trans hr) (fun t ht _ => hpost t ht) hS'.2.2 hd
  · exact W.vret B.exec B.bytes (B.returns.trans hr) (fun t ht _ => hpost t ht) hS'.2.2 hd
end AWE
/-- what comes back from a call -/
theorem aw_back {p : Program} {G : aw_G} {e : Env} {R : Room} {s : State} {m : MethodId} {args : Array Value} {below : List Frame} {meth : Method} {c : Code} {H : Heap} {locs : List Loc} {k n mc ms pc : Nat} {ls : Array Slot} {st rest : List Value} {a : Array Value} {Q : aw_Q} {Z : State → Prop}
    (hr : va_Run p (aw_l G) e R s m args below meth c H locs k n mc ms (F0 m pc ls st) rest (aw_Qc G Q a) (aw_A G)) (hS : va_S (aw_A G) s.heap H locs)
    (kk : ∀ (v : Option Value) (Ω : aw_O) (I : aw_MI) (J : aw_MJ) (H1 : Heap) (locs1 : List Loc), Q v Ω I J → aw_R G Ω I J H1 → va_S (aw_A G) s.heap H1 locs1 → W p (aw_l G) e R s m args below meth c H1 locs1 (k + mc) (n + ms) Z (F0 m (pc + 3) ls (v.toList ++ rest))) : W p (aw_l G) e R s m args below meth c H locs k n Z (F0 m pc ls st) := by
  intro T hT X
  obtain ⟨v, st₀, t, T', L, h0, X', hL, e1, e2, ⟨⟨v', Ω', I', J', hv, hq, hR'⟩, hz, hk⟩, stp⟩ := hr T hT X
  cases hv
  rw [h0] at hz hk
  obtain ⟨t2, a1, b1⟩ := kk v Ω' I' J' T'.heap (locs ++ L) hq (by rw [e1]; exact hR')
    ⟨Nat.le_trans hS.1 (by rw [e1]; exact hz), fun q h1 h2 => by rw [e1, hk q (Nat.lt_of_lt_of_le h1 hS.1) h2]; exact hS.2.1 q h1 h2, fun q hq => by
      rcases List.mem_append.mp hq with h | h
      · exact hS.2.2 q h
      · exact hL q h⟩ T' rfl X'
  exact ⟨t2, stp t2 a1, b1⟩
theorem aw_nest_on : ∀ w ∈ aw_nest, w.onTables = true := by
  intro w hw
  simp only [aw_nest, List.mem_cons, List.not_mem_nil, or_false] at hw
  rcases hw with rfl | rfl | rfl | rfl <;> rfl
theorem aw_blind {G : aw_G} {Ω : aw_O} {I : aw_MI} {J : aw_MJ} {av : List Value} : FrameBlind (va_Pc av (fun U => aw_K G U ∧ aw_R G Ω I J U.heap)) := by
  intro a U g mk q
  obtain ⟨q0, qK, qR⟩ := q
  exact ⟨q0, ⟨va_K.moved (u := U) (U := U.calling g mk a) (Vm.Alike.refl U.vm) qK.1, fun w hw => va_Nw.same (aw_nest_on w hw) (u := U) rfl (qK.2.1 w hw), qK.2.2⟩, qR⟩
theorem aw_pay {args : Array Value} {s : State} (ht : ∀ w ∈ aw_tbl, w.before args s = true) {y : MethodName} {cc : ByteArray} {nL : Nat} {rt : Option FieldType} (hc : Cond.code y cc nL rt ∈ aw_tbl) : ∀ w ∈ (Cond.code y cc nL rt :: aw_tbl), ∀ (a' : Array Value) (U : State), s.WarmedH U.vm → w.before a' U = true :=
  pay_in ht (aw_goodIn (fun w hw => by
    rcases List.mem_cons.mp hw with rfl | h
    · exact hc
    · exact h))
/-- a method of the tables that can be called -/
def aw_ok (M : aw_M) (np : Nat) : Prop := Cond.code (aw_y M) (aw_cc M) (aw_nL M) (aw_rt M) ∈ aw_tbl ∧ Cond.initialized (aw_y M).cls ∈ aw_tbl ∧ ((aw_y M).cls ≠ "java/lang/invoke/MethodHandle" ∧ (aw_y M).cls ≠ "java/lang/invoke/VarHandle") ∧ (parseMethodDescriptor (aw_y M).desc).map (fun d => d.parameters.length) = some np ∧ aw_nL M ≤ 45
theorem aw_cb {args : Array Value} {s : State} (ht : ∀ w ∈ aw_tbl, w.before args s = true) {R : Room} {own : String} {idx d mc ms np : Nat} {M : aw_M} (ho : aw_ok M np) (hl : Cond.methodLink own idx (aw_y M) ∈ aw_tbl) (hf : d + 1 ≤ R.frames) (hlo : 64 * (d + 1) ≤ R.locals) : CallB R s args own idx (aw_y M) (aw_cc M) (aw_nL M) (aw_rt M) (Cond.code (aw_y M) (aw_cc M) (aw_nL M) (aw_rt M) :: aw_tbl) (aw_rm d mc ms) mc ms np := by
  obtain ⟨h1, h2, h3, h4, h5⟩ := ho
  refine ⟨rfl, rfl, hf, ?_, aw_pay ht h1, List.mem_cons_self, ht _ h1, ht _ h2, h3, fun sig h => ?_, ht _ hl⟩
  · show 8 + (aw_nL M + 11) + 64 * d ≤ R.locals
    omega
  · rw [h] at h4
    exact (Option.some.inj h4).symm
section AWK
variable {G : aw_G} {M M' : aw_M} {N0 d d' mc ms mc' ms' : Nat} {Q : aw_Q} {Ω : aw_O} {I : aw_MI} {J : aw_MJ} {k n : Nat} {lv : List Value} {pc : Nat} {st : List Value}
/-- invokevirtual -/
theorem aw_cv {idx ci i np : Nat} {As rest : List Value} {Q' : aw_Q} (hd : decode (aw_cc M) pc = .ok (.invokevirtual idx, 3)) (hl : Cond.methodLink (aw_y M).cls idx (aw_y M') ∈ aw_tbl ∧ Cond.instanceMethod (aw_y M') ∈ aw_tbl ∧ Cond.selects (aw_y M').cls (aw_y M') (aw_y M') ∈ aw_tbl) (ho : aw_ok M' np) (hcl : (classes[ci]?).map (fun q => q.1) = some (aw_y M').cls) (hi : aw_is Ω i (.inl ci)) (hdd : d' + 1 ≤ d) (hn : As.length = np) (hst : st = As.reverse ++ .ref (aw_ad G i) :: rest) (hw : (rest.map fun v => v.category).sum ≤ 8) (hc : aw_Call G M' d' mc' ms' (.ref (aw_ad G i) :: As) Ω I J Q') (hm : k + mc' ≤ mc ∧ n + ms' ≤ ms)
    (kk : ∀ (v : Option Value) (Ω' : aw_O) (I' : aw_MI) (J' : aw_MJ), Q' v Ω' I' J' → AW G M N0 d mc ms Q Ω' I' J' (k + mc') (n + ms') lv (pc + 3) (v.toList ++ rest)) : AW G M N0 d mc ms Q Ω I J k n lv pc st := by
  intro p e R s m args below meth c H locs ls Z hF hL hR hS hE
  have hFx := hF
  obtain ⟨hx, hb, hr, hlk, hml, hown, hts, hK, hnm, hfr, hlo, hmc, hms, hsz, hsc⟩ := hF
  refine aw_back (va_runV (C := (aw_y M').cls) (As := As) (rest := rest) ⟨hx, hb, hml, hown, hts⟩ hc ⟨aw_cb hts ho hl.1 (Nat.le_trans hdd hfr) (by omega), hts _ hl.2.1, hts _ hl.2.2⟩ ⟨aw_blind, ?_, fun U hU hW => ⟨rfl, hK.moved hW, by rw [hU]; exact hR⟩⟩ rfl hn hL.1 hst (lv_room hw) hd ⟨by omega, by omega⟩) hS (fun v Ω' I' J' H1 locs1 hq hR1 hS1 => kk v Ω' I' J' hq p e R s m args below meth c H1 locs1 ls Z hFx hL hR1 hS1 hE)
  cases hq : classes[ci]? with
  | none => rw [hq] at hcl; cases hcl
  | some q =>
    rw [hq] at hcl
    have := va_recv hK.1 hR.1 hq (aw_E_obj (G := G) (I := I) (J := J) hi)
    have h9 : q.1 = (aw_y M').cls := Option.some.inj hcl
    rw [h9] at this
    exact this
/-- invokestatic -/
theorem aw_cs {idx np : Nat} {As rest : List Value} {Q' : aw_Q} (hd : decode (aw_cc M) pc = .ok (.invokestatic idx, 3)) (hl : Cond.methodLink (aw_y M).cls idx (aw_y M') ∈ aw_tbl ∧ Cond.static (aw_y M') ∈ aw_tbl) (ho : aw_ok M' np) (hdd : d' + 1 ≤ d) (hn : As.length = np) (hst : st = As.reverse ++ rest) (hw : (rest.map fun v => v.category).sum ≤ 8) (hc : aw_Call G M' d' mc' ms' As Ω I J Q') (hm : k + mc' ≤ mc ∧ n + ms' ≤ ms)
    (kk : ∀ (v : Option Value) (Ω' : aw_O) (I' : aw_MI) (J' : aw_MJ), Q' v Ω' I' J' → AW G M N0 d mc ms Q Ω' I' J' (k + mc') (n + ms') lv (pc + 3) (v.toList ++ rest)) : AW G M N0 d mc ms Q Ω I J k n lv pc st := by
  intro p e R s m args below meth c H locs ls Z hF hL hR hS hE
  have hFx := hF
  obtain ⟨hx, hb, hr, hlk, hml, hown, hts, hK, hnm, hfr, hlo, hmc, hms, hsz, hsc⟩ := hF
  exact aw_back (va_runS (As := As) (rest := rest) ⟨hx, hb, hml, hown, hts⟩ hc ⟨aw_cb hts ho hl.1 (Nat.le_trans hdd hfr) (by omega), hts _ hl.2⟩ ⟨aw_blind, fun U hU hW => ⟨rfl, hK.moved hW, by rw [hU]; exact hR⟩⟩ rfl hn hL.1 hst (lv_room hw) hd ⟨by omega, by omega⟩) hS (fun v Ω' I' J' H1 locs1 hq hR1 hS1 => kk v Ω' I' J' hq p e R s m args below meth c H1 locs1 ls Z hFx hL hR1 hS1 hE)
end AWK
