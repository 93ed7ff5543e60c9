/-! THE LAYER AW: calls by what they return; numbers that are nI of a Nat; switches; arraycopy -/
section AWT
variable {G : aw_G} {M M' : aw_M} {N0 d d' mc ms : Nat} {Q : aw_Q} {Ω : aw_O} {I : aw_MI} {J : aw_MJ} {k n : Nat} {lv : List Value} {pc : Nat} {st : List Value}
theorem aw_cvI {idx ci i np : Nat} {As rest : List Value} (hd : decode (aw_cc M) pc = .ok (.invokevirtual idx, 3)) (hl : aw_LV (aw_y M).cls idx ci np M') (hi : aw_is Ω i (.inl ci)) (hdd : d' + 1 ≤ d) (hn : As.length = np) (hst : st = As.reverse ++ .ref (aw_ad G i) :: rest) (hw : (rest.map fun v => v.category).sum ≤ 8) (hm : k ≤ mc ∧ n ≤ ms)
    (hc : aw_Call G M' d' 0 0 (.ref (aw_ad G i) :: As) Ω I J (aw_QI (fun x Ω' I' J' => AW G M N0 d mc ms Q Ω' I' J' k n lv (pc + 3) (.int x :: rest)))) : AW G M N0 d mc ms Q Ω I J k n lv pc st :=
  aw_cv hd hl.1 hl.2.1 hl.2.2 hi hdd hn hst hw hc hm (fun v Ω' I' J' q => by obtain ⟨x, e, q⟩ := q; subst e; exact q)
theorem aw_cvL {idx ci i np : Nat} {As rest : List Value} (hd : decode (aw_cc M) pc = .ok (.invokevirtual idx, 3)) (hl : aw_LV (aw_y M).cls idx ci np M') (hi : aw_is Ω i (.inl ci)) (hdd : d' + 1 ≤ d) (hn : As.length = np) (hst : st = As.reverse ++ .ref (aw_ad G i) :: rest) (hw : (rest.map fun v => v.category).sum ≤ 8) (hm : k ≤ mc ∧ n ≤ ms)
    (hc : aw_Call G M' d' 0 0 (.ref (aw_ad G i) :: As) Ω I J (aw_QL (fun x Ω' I' J' => AW G M N0 d mc ms Q Ω' I' J' k n lv (pc + 3) (.long x :: rest)))) : AW G M N0 d mc ms Q Ω I J k n lv pc st :=
  aw_cv hd hl.1 hl.2.1 hl.2.2 hi hdd hn hst hw hc hm (fun v Ω' I' J' q => by obtain ⟨x, e, q⟩ := q; subst e; exact q)
theorem aw_cvV {idx ci i np : Nat} {As rest : List Value} (hd : decode (aw_cc M) pc = .ok (.invokevirtual idx, 3)) (hl : aw_LV (aw_y M).cls idx ci np M') (hi : aw_is Ω i (.inl ci)) (hdd : d' + 1 ≤ d) (hn : As.length = np) (hst : st = As.reverse ++ .ref (aw_ad G i) :: rest) (hw : (rest.map fun v => v.category).sum ≤ 8) (hm : k ≤ mc ∧ n ≤ ms)
    (hc : aw_Call G M' d' 0 0 (.ref (aw_ad G i) :: As) Ω I J (aw_QV (fun Ω' I' J' => AW G M N0 d mc ms Q Ω' I' J' k n lv (pc + 3) rest))) : AW G M N0 d mc ms Q Ω I J k n lv pc st :=
  aw_cv hd hl.1 hl.2.1 hl.2.2 hi hdd hn hst hw hc hm (fun v Ω' I' J' q => by obtain ⟨e, q⟩ := q; subst e; exact q)
theorem aw_csI {idx np : Nat} {As rest : List Value} (hd : decode (aw_cc M) pc = .ok (.invokestatic idx, 3)) (hl : aw_LS (aw_y M).cls idx np M') (hdd : d' + 1 ≤ d) (hn : As.length = np) (hst : st = As.reverse ++ rest) (hw : (rest.map fun v => v.category).sum ≤ 8) (hm : k ≤ mc ∧ n ≤ ms)
    (hc : aw_Call G M' d' 0 0 As Ω I J (aw_QI (fun x Ω' I' J' => AW G M N0 d mc ms Q Ω' I' J' k n lv (pc + 3) (.int x :: rest)))) : AW G M N0 d mc ms Q Ω I J k n lv pc st :=
  aw_cs hd hl.1 hl.2 hdd hn hst hw hc hm (fun v Ω' I' J' q => by obtain ⟨x, e, q⟩ := q; subst e; exact q)
theorem aw_csL {idx np : Nat} {As rest : List Value} (hd : decode (aw_cc M) pc = .ok (.invokestatic idx, 3)) (hl : aw_LS (aw_y M).cls idx np M') (hdd : d' + 1 ≤ d) (hn : As.length = np) (hst : st = As.reverse ++ rest) (hw : (rest.map fun v => v.category).sum ≤ 8) (hm : k ≤ mc ∧ n ≤ ms)
    (hc : aw_Call G M' d' 0 0 As Ω I J (aw_QL (fun x Ω' I' J' => AW G M N0 d mc ms Q Ω' I' J' k n lv (pc + 3) (.long x :: rest)))) : AW G M N0 d mc ms Q Ω I J k n lv pc st :=
  aw_cs hd hl.1 hl.2 hdd hn hst hw hc hm (fun v Ω' I' J' q => by obtain ⟨x, e, q⟩ := q; subst e; exact q)
theorem aw_csV {idx np : Nat} {As rest : List Value} (hd : decode (aw_cc M) pc = .ok (.invokestatic idx, 3)) (hl : aw_LS (aw_y M).cls idx np M') (hdd : d' + 1 ≤ d) (hn : As.length = np) (hst : st = As.reverse ++ rest) (hw : (rest.map fun v => v.category).sum ≤ 8) (hm : k ≤ mc ∧ n ≤ ms)
    (hc : aw_Call G M' d' 0 0 As Ω I J (aw_QV (fun Ω' I' J' => AW G M N0 d mc ms Q Ω' I' J' k n lv (pc + 3) rest))) : AW G M N0 d mc ms Q Ω I J k n lv pc st :=
  aw_cs hd hl.1 hl.2 hdd hn hst hw hc hm (fun v Ω' I' J' q => by obtain ⟨e, q⟩ := q; subst e; exact q)
/-- the top of the stack, said otherwise -/
theorem aw_toI {x y : Int32} (h : x = y) (kk : AW G M N0 d mc ms Q Ω I J k n lv pc (.int y :: st)) : AW G M N0 d mc ms Q Ω I J k n lv pc (.int x :: st) := h ▸ kk
theorem aw_toL {x y : Int64} (h : x = y) (kk : AW G M N0 d mc ms Q Ω I J k n lv pc (.long y :: st)) : AW G M N0 d mc ms Q Ω I J k n lv pc (.long x :: st) := h ▸ kk
theorem aw_toM {I' : aw_MI} {J' : aw_MJ} (h : I = I') (h2 : J = J') (kk : AW G M N0 d mc ms Q Ω I' J' k n lv pc st) : AW G M N0 d mc ms Q Ω I J k n lv pc st := by
  subst h
  subst h2
  exact kk
theorem aw_getIv {idx i ci f : Nat} {v : Int32} (hd : decode (aw_cc M) pc = .ok (.getfield idx, 3)) (hf : aw_F (aw_y M).cls idx ci f 0) (hi : aw_is Ω i (.inl ci)) (hv : I i f = v) (kk : AW G M N0 d mc ms Q Ω I J k n lv (pc + 3) (.int v :: st)) : AW G M N0 d mc ms Q Ω I J k n lv pc (.ref (aw_ad G i) :: st) := aw_getI hd hf hi (aw_toI hv kk)
theorem aw_ialdv {i N j : Nat} {x v : Int32} (hd : decode (aw_cc M) pc = .ok (.iaload, 1)) (hi : aw_is Ω i (.inr (0, N))) (hx : x = nI j) (hj : j < N) (hv : I i j = v) (kk : AW G M N0 d mc ms Q Ω I J k n lv (pc + 1) (.int v :: st)) (hN : N ≤ 1000 := by decide) : AW G M N0 d mc ms Q Ω I J k n lv pc (.int x :: .ref (aw_ad G i) :: st) := aw_iald hd hi hx hj (aw_toI hv kk) hN
theorem aw_laldv {i N j : Nat} {x : Int32} {v : Int64} (hd : decode (aw_cc M) pc = .ok (.laload, 1)) (hi : aw_is Ω i (.inr (1, N))) (hx : x = nI j) (hj : j < N) (hv : J i j = v) (kk : AW G M N0 d mc ms Q Ω I J k n lv (pc + 1) (.long v :: st)) (hN : N ≤ 1000 := by decide) : AW G M N0 d mc ms Q Ω I J k n lv pc (.int x :: .ref (aw_ad G i) :: st) := aw_lald hd hi hx hj (aw_toL hv kk) hN
theorem aw_iaddN {a b : Nat} (hd : decode (aw_cc M) pc = .ok (.iadd, 1)) (kk : AW G M N0 d mc ms Q Ω I J k n lv (pc + 1) (.int (nI (a + b)) :: st)) : AW G M N0 d mc ms Q Ω I J k n lv pc (.int (nI b) :: .int (nI a) :: st) := aw_iadd hd (aw_toI (nI_add a b) kk)
theorem aw_imulN {a b : Nat} (hd : decode (aw_cc M) pc = .ok (.imul, 1)) (kk : AW G M N0 d mc ms Q Ω I J k n lv (pc + 1) (.int (nI (a * b)) :: st)) : AW G M N0 d mc ms Q Ω I J k n lv pc (.int (nI b) :: .int (nI a) :: st) := aw_imul hd (aw_toI (pk_mul a b) kk)
theorem aw_isubN {a b : Nat} (hd : decode (aw_cc M) pc = .ok (.isub, 1)) (h : b ≤ a) (kk : AW G M N0 d mc ms Q Ω I J k n lv (pc + 1) (.int (nI (a - b)) :: st)) : AW G M N0 d mc ms Q Ω I J k n lv pc (.int (nI b) :: .int (nI a) :: st) := aw_isub hd (aw_toI (pk_sub h) kk)
theorem aw_iincN {i a : Nat} (hd : decode (aw_cc M) pc = .ok (.iinc i 1, 3)) (hg : lv[i]? = some (.int (nI a))) (hn : i < aw_nL M) (kk : AW G M N0 d mc ms Q Ω I J k n (aw_st1 lv i (.int (nI (a + 1)))) (pc + 3) st) : AW G M N0 d mc ms Q Ω I J k n lv pc st := aw_iinc hd hg (nI_1 a) hn kk
theorem aw_geN {a b : Nat} {off : Int} {t : Nat} (hd : decode (aw_cc M) pc = .ok (.if_icmp .ge off, 3)) (ht : (pc : Int) + off = (t : Int)) (ha : a < 2 ^ 31) (hb : b < 2 ^ 31) (kt : b ≤ a → AW G M N0 d mc ms Q Ω I J k n lv t st) (kf : a < b → AW G M N0 d mc ms Q Ω I J k n lv (pc + 3) st) : AW G M N0 d mc ms Q Ω I J k n lv pc (.int (nI b) :: .int (nI a) :: st) :=
  aw_icmp_ge hd ht (fun q => kt ((nI_leI hb ha).mp q)) (fun q => kf (by have := mt (nI_leI hb ha).mpr q; omega))
theorem aw_gtN {a b : Nat} {off : Int} {t : Nat} (hd : decode (aw_cc M) pc = .ok (.if_icmp .gt off, 3)) (ht : (pc : Int) + off = (t : Int)) (ha : a < 2 ^ 31) (hb : b < 2 ^ 31) (kt : b < a → AW G M N0 d mc ms Q Ω I J k n lv t st) (kf : a ≤ b → AW G M N0 d mc ms Q Ω I J k n lv (pc + 3) st) : AW G M N0 d mc ms Q Ω I J k n lv pc (.int (nI b) :: .int (nI a) :: st) :=
  aw_icmp_gt hd ht (fun q => kt ((nI_ltI hb ha).mp q)) (fun q => kf (by have := mt (nI_ltI hb ha).mpr q; omega))
theorem aw_ltN {a b : Nat} {off : Int} {t : Nat} (hd : decode (aw_cc M) pc = .ok (.if_icmp .lt off, 3)) (ht : (pc : Int) + off = (t : Int)) (ha : a < 2 ^ 31) (hb : b < 2 ^ 31) (kt : a < b → AW G M N0 d mc ms Q Ω I J k n lv t st) (kf : b ≤ a → AW G M N0 d mc ms Q Ω I J k n lv (pc + 3) st) : AW G M N0 d mc ms Q Ω I J k n lv pc (.int (nI b) :: .int (nI a) :: st) :=
  aw_icmp_lt hd ht (fun q => kt ((nI_ltI ha hb).mp q)) (fun q => kf (by have := mt (nI_ltI ha hb).mpr q; omega))
theorem aw_leN {a b : Nat} {off : Int} {t : Nat} (hd : decode (aw_cc M) pc = .ok (.if_icmp .le off, 3)) (ht : (pc : Int) + off = (t : Int)) (ha : a < 2 ^ 31) (hb : b < 2 ^ 31) (kt : a ≤ b → AW G M N0 d mc ms Q Ω I J k n lv t st) (kf : b < a → AW G M N0 d mc ms Q Ω I J k n lv (pc + 3) st) : AW G M N0 d mc ms Q Ω I J k n lv pc (.int (nI b) :: .int (nI a) :: st) :=
  aw_icmp_le hd ht (fun q => kt ((nI_leI ha hb).mp q)) (fun q => kf (by have := mt (nI_leI ha hb).mpr q; omega))
theorem aw_eqN {a b : Nat} {off : Int} {t : Nat} (hd : decode (aw_cc M) pc = .ok (.if_icmp .eq off, 3)) (ht : (pc : Int) + off = (t : Int)) (ha : a < 2 ^ 31) (hb : b < 2 ^ 31) (kt : a = b → AW G M N0 d mc ms Q Ω I J k n lv t st) (kf : a ≠ b → AW G M N0 d mc ms Q Ω I J k n lv (pc + 3) st) : AW G M N0 d mc ms Q Ω I J k n lv pc (.int (nI b) :: .int (nI a) :: st) :=
  aw_icmp_eq hd ht (fun q => kt ((nI_eq ha hb).mp q)) (fun q => kf (fun e => q ((nI_eq ha hb).mpr e)))
theorem aw_neN {a b : Nat} {off : Int} {t : Nat} (hd : decode (aw_cc M) pc = .ok (.if_icmp .ne off, 3)) (ht : (pc : Int) + off = (t : Int)) (ha : a < 2 ^ 31) (hb : b < 2 ^ 31) (kt : a ≠ b → AW G M N0 d mc ms Q Ω I J k n lv t st) (kf : a = b → AW G M N0 d mc ms Q Ω I J k n lv (pc + 3) st) : AW G M N0 d mc ms Q Ω I J k n lv pc (.int (nI b) :: .int (nI a) :: st) :=
  aw_icmp_ne hd ht (fun q => kt (fun e => q ((nI_eq ha hb).mpr e))) (fun q => kf ((nI_eq ha hb).mp q))
theorem aw_tabIn {x : Int32} {dflt lo hi : Int} {offs : Array Int} {len : Nat} {off : Int} {t : Nat} (hd : decode (aw_cc M) pc = .ok (.tableswitch dflt lo hi offs, len)) (h1 : ¬ x.toInt < lo) (h2 : ¬ hi < x.toInt) (ho : offs[(x.toInt - lo).toNat]? = some off) (ht : (pc : Int) + off = (t : Int)) (kk : AW G M N0 d mc ms Q Ω I J k n lv t st) : AW G M N0 d mc ms Q Ω I J k n lv pc (.int x :: st) := by
  intro p e R s m args below meth c H locs ls Z hF hl hR hS hE
  exact lv_tableIn hF.1 hF.2.1 hd h1 h2 ho ht (kk p e R s m args below meth c H locs ls Z hF hl hR hS hE)
theorem aw_tabOut {x : Int32} {dflt lo hi : Int} {offs : Array Int} {len : Nat} {t : Nat} (hd : decode (aw_cc M) pc = .ok (.tableswitch dflt lo hi offs, len)) (h : x.toInt < lo ∨ hi < x.toInt) (ht : (pc : Int) + dflt = (t : Int)) (kk : AW G M N0 d mc ms Q Ω I J k n lv t st) : AW G M N0 d mc ms Q Ω I J k n lv pc (.int x :: st) := by
  intro p e R s m args below meth c H locs ls Z hF hl hR hS hE
  exact lv_tableOut hF.1 hF.2.1 hd h ht (kk p e R s m args below meth c H locs ls Z hF hl hR hS hE)
theorem aw_lookup {x : Int32} {dflt : Int} {ps : Array (Int × Int)} {len : Nat} {off : Int} {t : Nat} (hd : decode (aw_cc M) pc = .ok (.lookupswitch dflt ps, len)) (hp : (ps.toList.zip (ps.toList.drop 1)).all (fun (a, next) => a.1 < next.1) = true) (ho : Op.lookupswitch.offset ps.toList dflt x.toInt = off) (ht : (pc : Int) + off = (t : Int)) (kk : AW G M N0 d mc ms Q Ω I J k n lv t st) : AW G M N0 d mc ms Q Ω I J k n lv pc (.int x :: st) := by
  intro p e R s m args below meth c H locs ls Z hF hl hR hS hE
  exact lv_lookup hF.1 hF.2.1 hd hp ho ht (kk p e R s m args below meth c H locs ls Z hF hl hR hS hE)
/-- a class's code names System.arraycopy -/
def aw_LC (own : String) (idx : Nat) : Prop := Cond.methodLink own idx arraycopyName ∈ aw_tbl ∧ Cond.native arraycopyName ∈ aw_tbl ∧ Cond.static arraycopyName ∈ aw_tbl ∧ Cond.initialized "java/lang/System" ∈ aw_tbl
theorem aw_copyI {idx i i2 N N2 sp dp c0 : Nat} {x y z : Int32} (hd : decode (aw_cc M) pc = .ok (.invokestatic idx, 3)) (hl : aw_LC (aw_y M).cls idx) (hi : aw_is Ω i (.inr (0, N))) (hi2 : aw_is Ω i2 (.inr (0, N2))) (hx : x = nI sp) (hy : y = nI dp) (hz : z = nI c0) (h4 : sp + c0 ≤ N) (h5 : dp + c0 ≤ N2) (hw : (st.map fun v => v.category).sum ≤ 8) (hdd : 2 ≤ d) (hN0 : aw_nx Ω = N0 + k) (kk : AW G M N0 d mc ms Q Ω (aw_cp I i i2 sp dp c0) J k n lv (pc + 3) st) (hN : N ≤ 1000 := by decide) (hN2 : N2 ≤ 1000 := by decide) : AW G M N0 d mc ms Q Ω I J k n lv pc (.int z :: .int y :: .ref (aw_ad G i2) :: .int x :: .ref (aw_ad G i) :: st) := by
  intro p e R s m args below meth c H locs ls Z hF hL hR hS hE
  have hFx := hF
  obtain ⟨hxx, hb, hr, hlk, hml, hown, hts, hK, hnm, hfr, hlo, hmc, hms, hsz, hsc⟩ := hF
  subst hx
  subst hy
  subst hz
  have q1 : (nI sp).toNatClampNeg = sp := nI_clamp (by omega)
  have q2 : (nI dp).toNatClampNeg = dp := nI_clamp (by omega)
  have q3 : (nI c0).toNatClampNeg = c0 := nI_clamp (by omega)
  have hp1 : ¬ nI sp < 0 := nI_pos (by omega)
  have hp2 : ¬ nI dp < 0 := nI_pos (by omega)
  have hp3 : ¬ nI c0 < 0 := nI_pos (by omega)
  have hnf : nativeFrameWords "java/lang/System" "arraycopy" 5 ≤ 60 := by decide +kernel
  have hfr1 : 1 ≤ R.frames := by omega
  have hlo1 : (st.map fun v => v.category).sum + (nativeFrameWords "java/lang/System" "arraycopy" 5 + 11) ≤ R.locals := by omega
  refine va_copyi hxx hb (hml.trans hL.1.symm) hown (hts _ hl.1) (hts _ hl.2.1) (hts _ hl.2.2.1) (hts _ hl.2.2.2) hK.1 hR.1 aw_Dd hS i i2 0 0 (aw_E_int hi) (aw_E_int hi2) rfl rfl rfl hp1 hp2 hp3 (by rw [q1, q3]; exact h4) (by rw [q2, q3]; exact h5) (fun _ _ => rfl) hfr1 hlo1 hd (fun H1 locs1 hP1 hD1 hS1 => ?_)
  rw [q1, q2, q3] at hP1
  have e1 : (aw_ws G Ω I J).set i2 (aw_ad G i2, .inl (aw_cI G, N2, .inl (va_cpy (I i) (I i2) sp dp c0))) = aw_ws G Ω (aw_cp I i i2 sp dp c0) J := by
    refine aw_set ?_ (fun j' hj' => aw_E_cong (aw_cp_off I hj') rfl)
    simp only [aw_E, hi2.2]
    congr 4
    funext q
    simp [aw_cp, va_cpy]
  rw [e1] at hP1
  intro T2 hT2 X
  exact kk p e R s m args below meth c H1 locs1 ls Z hFx hL ⟨hP1, aw_sz X hT2 hsz hN0 hS1.1 hP1⟩ hS1 hE T2 hT2 X
theorem aw_copyJ {idx i i2 N N2 sp dp c0 : Nat} {x y z : Int32} (hd : decode (aw_cc M) pc = .ok (.invokestatic idx, 3)) (hl : aw_LC (aw_y M).cls idx) (hi : aw_is Ω i (.inr (1, N))) (hi2 : aw_is Ω i2 (.inr (1, N2))) (hx : x = nI sp) (hy : y = nI dp) (hz : z = nI c0) (h4 : sp + c0 ≤ N) (h5 : dp + c0 ≤ N2) (hw : (st.map fun v => v.category).sum ≤ 8) (hdd : 2 ≤ d) (hN0 : aw_nx Ω = N0 + k) (kk : AW G M N0 d mc ms Q Ω I (aw_cp J i i2 sp dp c0) k n lv (pc + 3) st) (hN : N ≤ 1000 := by decide) (hN2 : N2 ≤ 1000 := by decide) : AW G M N0 d mc ms Q Ω I J k n lv pc (.int z :: .int y :: .ref (aw_ad G i2) :: .int x :: .ref (aw_ad G i) :: st) := by
  intro p e R s m args below meth c H locs ls Z hF hL hR hS hE
  have hFx := hF
  obtain ⟨hxx, hb, hr, hlk, hml, hown, hts, hK, hnm, hfr, hlo, hmc, hms, hsz, hsc⟩ := hF
  subst hx
  subst hy
  subst hz
  have q1 : (nI sp).toNatClampNeg = sp := nI_clamp (by omega)
  have q2 : (nI dp).toNatClampNeg = dp := nI_clamp (by omega)
  have q3 : (nI c0).toNatClampNeg = c0 := nI_clamp (by omega)
  have hp1 : ¬ nI sp < 0 := nI_pos (by omega)
  have hp2 : ¬ nI dp < 0 := nI_pos (by omega)
  have hp3 : ¬ nI c0 < 0 := nI_pos (by omega)
  have hnf : nativeFrameWords "java/lang/System" "arraycopy" 5 ≤ 60 := by decide +kernel
  have hfr1 : 1 ≤ R.frames := by omega
  have hlo1 : (st.map fun v => v.category).sum + (nativeFrameWords "java/lang/System" "arraycopy" 5 + 11) ≤ R.locals := by omega
  refine va_copyl hxx hb (hml.trans hL.1.symm) hown (hts _ hl.1) (hts _ hl.2.1) (hts _ hl.2.2.1) (hts _ hl.2.2.2) hK.1 hR.1 aw_Dd hS i i2 1 1 (aw_E_lng hi) (aw_E_lng hi2) rfl rfl rfl hp1 hp2 hp3 (by rw [q1, q3]; exact h4) (by rw [q2, q3]; exact h5) (fun _ _ => rfl) hfr1 hlo1 hd (fun H1 locs1 hP1 hD1 hS1 => ?_)
  rw [q1, q2, q3] at hP1
  have e1 : (aw_ws G Ω I J).set i2 (aw_ad G i2, .inl (aw_cJ G, N2, .inr (.inl (va_cpy (J i) (J i2) sp dp c0)))) = aw_ws G Ω I (aw_cp J i i2 sp dp c0) := by
    refine aw_set ?_ (fun j' hj' => aw_E_cong rfl (aw_cp_off J hj'))
    simp only [aw_E, hi2.2]
    congr 5
    funext q
    simp [aw_cp, va_cpy]
  rw [e1] at hP1
  intro T2 hT2 X
  exact kk p e R s m args below meth c H1 locs1 ls Z hFx hL ⟨hP1, aw_sz X hT2 hsz hN0 hS1.1 hP1⟩ hS1 hE T2 hT2 X
end AWT
