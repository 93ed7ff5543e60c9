/-! THE LAYER AW: constructors called; rows of rows made -/
theorem aw_w73 : Cond.instanceMethod Lib.objectInit ∈ aw_tbl := aw_pl 73 (by decide +kernel) rfl
theorem aw_w74 : Cond.code Lib.objectInit ⟨#[0xb1]⟩ 1 none ∈ aw_tbl := aw_pl 74 (by decide +kernel) rfl
section AWN3
variable {G : aw_G} {M M' : aw_M} {N0 d d' mc ms mc' ms' : Nat} {Q : aw_Q} {Ω : aw_O} {I : aw_MI} {J : aw_MJ} {k n : Nat} {lv : List Value} {pc : Nat} {st : List Value}
theorem aw_oi {idx a : Nat} (hd : decode (aw_cc M) pc = .ok (.invokespecial idx, 3)) (hl2 : Cond.methodLink (aw_y M).cls idx Lib.objectInit ∈ aw_tbl) (hdd : 1 ≤ d) (hw : (st.map fun v => v.category).sum ≤ 8) (kk : AW G M N0 d mc ms Q Ω I J k n lv (pc + 3) st) : AW G M N0 d mc ms Q Ω I J k n lv pc (.ref (aw_ad G a) :: st) := by
  intro p e R s m args below meth c H locs ls Z hF hl hR hS hE
  have hFx := hF
  obtain ⟨hxx, hb, hr, hlk, hml, hown, hts, hK, hnm, hfr, hlo, hmc, hms, hsz, hsc⟩ := hF
  refine W.objInit hxx hb hown (hts _ hl2) (hts _ aw_w73) (hts _ aw_w74) rfl (hl.1.trans hml.symm) rfl hd (by omega) ?_ (kk p e R s m args below meth c H locs ls Z hFx hl hR hS hE)
  show 2 * 0 + (st.map fun v => v.category).sum + 12 ≤ R.locals
  omega
/-- a constructor -/
theorem aw_ci {idx i np : Nat} {As rest : List Value} {Q' : aw_Q} (hd : decode (aw_cc M) pc = .ok (.invokespecial idx, 3)) (hl : Cond.methodLink (aw_y M).cls idx (aw_y M') ∈ aw_tbl ∧ Cond.instanceMethod (aw_y M') ∈ aw_tbl) (ho : aw_ok M' np) (hrt : aw_rt M' = none) (hnm : (aw_y M').name = "<init>") (hdd : d' + 1 ≤ d) (hn : As.length = np) (hst : st = As.reverse ++ .ref (aw_ad G i) :: rest) (hw : (rest.map fun v => v.category).sum ≤ 8) (hc : aw_Call G M' d' mc' ms' (.ref (aw_ad G i) :: As) Ω I J Q') (hm : k + mc' ≤ mc ∧ n + ms' ≤ ms)
    (kk : ∀ (v : Option Value) (Ω' : aw_O) (I' : aw_MI) (J' : aw_MJ), Q' v Ω' I' J' → AW G M N0 d mc ms Q Ω' I' J' (k + mc') (n + ms') lv (pc + 3) (v.toList ++ rest)) : AW G M N0 d mc ms Q Ω I J k n lv pc st := by
  intro p e R s m args below meth c H locs ls Z hF hL hR hS hE
  have hFx := hF
  obtain ⟨hx, hb, hr, hlk, hml, hown, hts, hK, hnm2, hfr, hlo, hmc, hms, hsz, hsc⟩ := hF
  have hcb := aw_cb (mc := mc') (ms := ms') hts ho hl.1 (Nat.le_trans hdd hfr) (by omega)
  rw [hrt] at hcb
  unfold aw_Call at hc
  rw [hrt] at hc
  exact aw_back (va_runI (As := As) (rest := rest) ⟨hx, hb, hml, hown, hts⟩ hc ⟨hcb, hnm, hts _ hl.2⟩ ⟨aw_blind, fun U hU hW => ⟨rfl, hK.moved hW, by rw [hU]; exact hR⟩⟩ rfl hn hL.1 hst (lv_room hw) hd ⟨by omega, by omega⟩) hS (fun v Ω' I' J' H1 locs1 hq hR1 hS1 => kk v Ω' I' J' hq p e R s m args below meth c H1 locs1 ls Z hFx hL hR1 hS1 hE)
/-- a private constructor of a nest mate -/
theorem aw_cin {idx i np : Nat} {As rest : List Value} {Q' : aw_Q} (hd : decode (aw_cc M) pc = .ok (.invokespecial idx, 3)) (hl : Cond.methodLinkNest (aw_y M).cls idx (aw_y M') RX7 ∈ aw_nest ∧ Cond.instanceMethod (aw_y M') ∈ aw_tbl) (ho : aw_ok M' np) (hrt : aw_rt M' = none) (hnm : (aw_y M').name = "<init>") (hdd : d' + 1 ≤ d) (hn : As.length = np) (hst : st = As.reverse ++ .ref (aw_ad G i) :: rest) (hw : (rest.map fun v => v.category).sum ≤ 8) (hc : aw_Call G M' d' mc' ms' (.ref (aw_ad G i) :: As) Ω I J Q') (hm : k + mc' ≤ mc ∧ n + ms' ≤ ms)
    (kk : ∀ (v : Option Value) (Ω' : aw_O) (I' : aw_MI) (J' : aw_MJ), Q' v Ω' I' J' → AW G M N0 d mc ms Q Ω' I' J' (k + mc') (n + ms') lv (pc + 3) (v.toList ++ rest)) : AW G M N0 d mc ms Q Ω I J k n lv pc st := by
  intro p e R s m args below meth c H locs ls Z hF hL hR hS hE
  have hFx := hF
  obtain ⟨hx, hb, hr, hlk, hml, hown, hts, hK, hnm2, hfr, hlo, hmc, hms, hsz, hsc⟩ := hF
  obtain ⟨o1, o2, o3, o4, o5⟩ := ho
  have hcn : va_CN R s args (aw_y M).cls idx (aw_y M') RX7 (aw_cc M') (aw_nL M') (aw_rt M') (Cond.code (aw_y M') (aw_cc M') (aw_nL M') (aw_rt M') :: aw_tbl) (aw_rm d' mc' ms') mc' ms' np := va_cnB np hts (aw_goodIn (fun w hw => by
    rcases List.mem_cons.mp hw with rfl | h
    · exact o1
    · exact h)) rfl rfl rfl (hK.2.1 _ hl.1) (hts _ o2) ⟨o3.1, o3.2, o4⟩ ⟨Nat.le_trans hdd hfr, by show 8 + (aw_nL M' + 11) + 64 * d' ≤ R.locals; omega⟩
  rw [hrt] at hcn
  unfold aw_Call at hc
  rw [hrt] at hc
  exact aw_back (va_runIN (As := As) (rest := rest) ⟨hx, hb, hml, hown, hts⟩ hc ⟨hcn, hnm, hts _ hl.2⟩ ⟨aw_blind, fun U hU hW => ⟨rfl, hK.moved hW, by rw [hU]; exact hR⟩⟩ rfl hn hL.1 hst (lv_room hw) hd ⟨by omega, by omega⟩) hS (fun v Ω' I' J' H1 locs1 hq hR1 hS1 => kk v Ω' I' J' hq p e R s m args below meth c H1 locs1 ls Z hFx hL hR1 hS1 hE)
end AWN3
