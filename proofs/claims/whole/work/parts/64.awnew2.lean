/-! THE LAYER AW: objects made, references put, constructors called -/
def aw_dfv (t : Nat) : Value := if t = 1 then .long 0 else if t = 2 then .null else .int 0
/-- in a class's code the index names class ci, which can be made; w: how many fields -/
def aw_N (own : String) (idx ci w : Nat) : Prop := ∃ (C : String) (T : u_T) (ty : Nat → FieldType), aw_C ci C T w ty ∧ Cond.classLink own idx C ∈ aw_tbl ∧ Cond.instantiable C w ∈ aw_tbl ∧ Cond.initialized C ∈ aw_tbl ∧ ∀ k, k < w → defaultValue (ty k) = aw_dfv (aw_kd (ty k))
section AWN2
variable {G : aw_G} {M M' : aw_M} {N0 d d' mc ms : Nat} {Q : aw_Q} {Ω : aw_O} {I : aw_MI} {J : aw_MJ} {k n : Nat} {lv : List Value} {pc : Nat} {st : List Value}
theorem aw_new {idx ci w : Nat} (hd : decode (aw_cc M) pc = .ok (.new idx, 3)) (hf : aw_N (aw_y M).cls idx ci w) (hk : k + 1 ≤ mc) (hn : n + w ≤ ms) (kk : AW G M N0 d mc ms Q (aw_ext Ω (.inl ci) (fun _ => none)) (aw_z I (aw_nx Ω) 0) (aw_z J (aw_nx Ω) 0) (k + 1) (n + w) lv (pc + 3) (.ref (aw_ad G (aw_nx Ω)) :: st)) : AW G M N0 d mc ms Q Ω I J k n lv pc st := by
  intro p e R s m args below meth c H locs ls Z hF hl hR hS hE
  have hFx := hF
  obtain ⟨hxx, hb, hr, hlk, hml, hown, hts, hK, hnm, hfr, hlo, hmc, hms, hsz, hsc⟩ := hF
  obtain ⟨C, T, ty, ⟨hc, hin, hty, hnm2, hft⟩, w1, w2, w3, hdf⟩ := hf
  have hKn := hK.1.1 ci _ hc
  refine W.newcK hxx hb hown (hts _ w1) (hts _ w2) (hts _ w3) rfl hd (by omega) (by omega) hKn.2.1 rfl fun H1 kC hkC e1 z1 o1 => ?_
  have hsize : H.size = aw_bs G + aw_nx Ω := hR.2
  rw [hsize] at e1 z1 ⊢
  refine kk p e R s m args below meth c H1 locs ls Z hFx hl (aw_R_ext hR (fun i hi => aw_z_off I 0 (Nat.ne_of_lt hi)) (fun i hi => aw_z_off J 0 (Nat.ne_of_lt hi)) (by rw [z1, hsize]) (fun x hx => o1 x hx) ?_) (aw_S_ext hS (by rw [z1, hsize]) (fun x hx => o1 x hx)) hE
  simp only [aw_E, (aw_ext_new Ω (.inl ci) (fun _ => none)).2]
  refine ⟨_, hc, (u_born ty (fun w hw => hts w hw) hin hKn hkC e1 hty).to (fun j hj => ?_)⟩
  rw [hdf j hj]
  have hg : (aw_fty ci)[j]? = some (aw_kd (ty j)) := by
    rw [hft]
    simp [hj]
  have hv := aw_fl_get (aw_val G (aw_ext Ω (.inl ci) (fun _ => none)) (aw_z I (aw_nx Ω) 0) (aw_z J (aw_nx Ω) 0) (aw_nx Ω)) (aw_fty ci) 0 j _ hg
  show _ = (aw_fl (aw_val G (aw_ext Ω (.inl ci) (fun _ => none)) (aw_z I (aw_nx Ω) 0) (aw_z J (aw_nx Ω) 0) (aw_nx Ω)) 0 (aw_fty ci)).getD j .null
  rw [List.getD_eq_getElem?_getD, hv, Nat.zero_add]
  show aw_dfv _ = aw_val G _ _ _ (aw_nx Ω) j (aw_kd (ty j))
  unfold aw_val aw_dfv
  rw [aw_z_at, aw_z_at, aw_ext_P, if_pos rfl]
  rfl
/-- a reference is put -/
def aw_sp (Ω : aw_O) (i f r : Nat) : aw_O := (aw_sh Ω, fun a j => if a = i ∧ j = f then some r else aw_P Ω a j, aw_nx Ω)
theorem aw_sp_is {i f r a : Nat} {S : aw_S} (h : aw_is Ω a S) : aw_is (aw_sp Ω i f r) a S := h
theorem aw_sp_P (i f r a j : Nat) : aw_P (aw_sp Ω i f r) a j = if a = i ∧ j = f then some r else aw_P Ω a j := rfl
/-- in a class's code the index names a final field of its own, a reference -/
def aw_FF (own : String) (idx ci f : Nat) : Prop := ∃ (C : String) (T : u_T) (N : Nat) (ty : Nat → FieldType), aw_C ci C T N ty ∧ f < N ∧ Cond.fieldLink own idx (T f).1 (T f).2.1 (T f).2.2.1 ∈ aw_tbl ∧ aw_kd (ty f) = 2 ∧ (T f).2.2.2 = true ∧ (T f).1 = own ∧ ∀ a, narrow (ty f) (.ref a) = .ref a ∧ fits (ty f) (.ref a) = true
theorem aw_putR {idx i ci f r : Nat} (hd : decode (aw_cc M) pc = .ok (.putfield idx, 3)) (hf : aw_FF (aw_y M).cls idx ci f) (hi : aw_is Ω i (.inl ci)) (hm : (aw_y M).name = "<init>") (hN : aw_nx Ω = N0 + k) (kk : AW G M N0 d mc ms Q (aw_sp Ω i f r) I J k n lv (pc + 3) st) : AW G M N0 d mc ms Q Ω I J k n lv pc (.ref (aw_ad G r) :: .ref (aw_ad G i) :: st) := by
  intro p e R s m args below meth c H locs ls Z hF hl hR hS hE
  obtain ⟨C, T, N, ty, ⟨hc, hin, hty, hnm, hft⟩, hk, hw, ht, hfin, hdecl, hfit⟩ := hf
  have hfa : (aw_fty ci)[f]? = some 2 := by
    rw [hft]
    simp [hk, ht]
  refine va_putF hF.1 hF.2.1 hF.2.2.2.2.2.2.1 hin ty hty hnm hF.2.2.2.2.2.1 hF.2.2.2.2.2.2.2.1.1 hR.1 aw_Dd hS i (aw_E_obj hi) hc f hk (hF.2.2.2.2.2.2.1 _ hw) (fun _ h => h) hfin (by rw [hF.2.2.2.2.2.2.2.2.1]; exact hm) hdecl (ty := ty f) (v := .ref (aw_ad G r)) (hty f hk) (hfit _).1 (hfit _).2 (by rw [aw_fl_len]; exact (List.getElem?_eq_some_iff.mp hfa).1) hd (fun H1 locs1 hP1 hD1 hS1 => ?_)
  have e1 : (aw_ws G Ω I J).set i (aw_ad G i, .inr (ci, (aw_fl (aw_val G Ω I J i) 0 (aw_fty ci)).set f (.ref (aw_ad G r)))) = aw_ws G (aw_sp Ω i f r) I J := by
    apply List.ext_getElem?
    intro j
    by_cases hj : j < aw_nx Ω
    · by_cases hji : j = i
      · subst hji
        rw [List.getElem?_set_self (by simp [aw_ws, hj]), aw_at (Ω := aw_sp Ω j f r) hj]
        congr 2
        have hsh : aw_sh (aw_sp Ω j f r) j = .inl ci := hi.2
        simp only [aw_E, hsh]
        congr 2
        have e2 := aw_fl_set (aw_val G Ω I J j) (aw_val G (aw_sp Ω j f r) I J j) (aw_fty ci) 0 f 2 hfa (fun q t' hq => by
          have hPq : aw_P (aw_sp Ω j f r) j q = aw_P Ω j q := by rw [aw_sp_P, if_neg (fun w => hq (by rw [w.2]; omega))]
          simp only [aw_val, hPq])
        simp only [Nat.zero_add] at e2
        have e3 : aw_val G (aw_sp Ω j f r) I J j f 2 = .ref (aw_ad G r) := by
          simp [aw_val, aw_sp_P, va_rf]
        rw [e3] at e2
        exact e2
      · rw [List.getElem?_set_ne (Ne.symm hji), aw_at hj, aw_at (Ω := aw_sp Ω i f r) hj]
        congr 2
        have hP : ∀ q, aw_P (aw_sp Ω i f r) j q = aw_P Ω j q := fun q => by rw [aw_sp_P, if_neg (fun w => hji w.1)]
        have hsh : aw_sh (aw_sp Ω i f r) j = aw_sh Ω j := rfl
        have hv : aw_val G (aw_sp Ω i f r) I J j = aw_val G Ω I J j := by
          funext q t
          simp only [aw_val, hP]
        simp only [aw_E, hsh, hP, hv]
    · rw [List.getElem?_eq_none (by simp [aw_ws]; omega), List.getElem?_eq_none (by simp [aw_ws]; exact Nat.not_lt.mp hj)]
  rw [e1] at hP1
  intro T2 hT2 X
  exact kk p e R s m args below meth c H1 locs1 ls Z hF hl ⟨hP1, aw_sz (Ω := aw_sp Ω i f r) X hT2 hF.2.2.2.2.2.2.2.2.2.2.2.2.2.1 hN hS1.1 hP1⟩ hS1 hE T2 hT2 X
end AWN2
