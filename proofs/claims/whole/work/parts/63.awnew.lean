/-! THE LAYER AW: cells that are made, references that are put, constructors that are called -/
def aw_ext (Ω : aw_O) (S : aw_S) (q : Nat → Option Nat) : aw_O := (fun i => if i = aw_nx Ω then S else aw_sh Ω i, fun i k => if i = aw_nx Ω then q k else aw_P Ω i k, aw_nx Ω + 1)
def aw_z {α : Type} (I : Nat → Nat → α) (i : Nat) (v : α) : Nat → Nat → α := fun a k => if a = i then v else I a k
theorem aw_z_off {α : Type} (I : Nat → Nat → α) {i a : Nat} (v : α) (h : a ≠ i) : aw_z I i v a = I a := funext fun k => by
  unfold aw_z
  exact if_neg h
theorem aw_z_at {α : Type} (I : Nat → Nat → α) (i : Nat) (v : α) (k : Nat) : aw_z I i v i k = v := by
  unfold aw_z
  exact if_pos rfl
theorem aw_ext_nx (Ω : aw_O) (S : aw_S) (q : Nat → Option Nat) : aw_nx (aw_ext Ω S q) = aw_nx Ω + 1 := rfl
theorem aw_ext_sh (Ω : aw_O) (S : aw_S) (q : Nat → Option Nat) (i : Nat) : aw_sh (aw_ext Ω S q) i = if i = aw_nx Ω then S else aw_sh Ω i := rfl
theorem aw_ext_P (Ω : aw_O) (S : aw_S) (q : Nat → Option Nat) (i k : Nat) : aw_P (aw_ext Ω S q) i k = if i = aw_nx Ω then q k else aw_P Ω i k := rfl
theorem aw_ext_is {Ω : aw_O} {S S' : aw_S} {q : Nat → Option Nat} {i : Nat} (h : aw_is Ω i S') : aw_is (aw_ext Ω S q) i S' := ⟨Nat.lt_succ_of_lt h.1, by rw [aw_ext_sh, if_neg (Nat.ne_of_lt h.1)]; exact h.2⟩
theorem aw_ext_new (Ω : aw_O) (S : aw_S) (q : Nat → Option Nat) : aw_is (aw_ext Ω S q) (aw_nx Ω) S := ⟨Nat.lt_succ_self _, by rw [aw_ext_sh, if_pos rfl]⟩
theorem aw_E_ext {G : aw_G} {Ω : aw_O} {I I' : aw_MI} {J J' : aw_MJ} {S : aw_S} {q : Nat → Option Nat} {i : Nat} (hi : i < aw_nx Ω) (h1 : I' i = I i) (h2 : J' i = J i) : aw_E G (aw_ext Ω S q) I' J' i = aw_E G Ω I J i := by
  have e1 : aw_sh (aw_ext Ω S q) i = aw_sh Ω i := by rw [aw_ext_sh, if_neg (Nat.ne_of_lt hi)]
  have e2 : ∀ k, aw_P (aw_ext Ω S q) i k = aw_P Ω i k := fun k => by rw [aw_ext_P, if_neg (Nat.ne_of_lt hi)]
  have e3 : aw_val G (aw_ext Ω S q) I' J' i = aw_val G Ω I J i := by
    funext k t
    simp only [aw_val, h1, h2, e2]
  simp only [aw_E, e1, e2, e3, h1, h2]
theorem aw_ws_ext {G : aw_G} {Ω : aw_O} {I I' : aw_MI} {J J' : aw_MJ} {S : aw_S} {q : Nat → Option Nat} (h1 : ∀ i, i < aw_nx Ω → I' i = I i) (h2 : ∀ i, i < aw_nx Ω → J' i = J i) : aw_ws G (aw_ext Ω S q) I' J' = aw_ws G Ω I J ++ [(aw_ad G (aw_nx Ω), aw_E G (aw_ext Ω S q) I' J' (aw_nx Ω))] := by
  unfold aw_ws
  rw [aw_ext_nx, List.range_succ, List.map_append]
  congr 1
  refine List.map_congr_left (fun i hi => ?_)
  rw [aw_E_ext (List.mem_range.mp hi) (h1 i (List.mem_range.mp hi)) (h2 i (List.mem_range.mp hi))]
/-- one more cell -/
theorem aw_R_ext {G : aw_G} {Ω : aw_O} {I I' : aw_MI} {J J' : aw_MJ} {S : aw_S} {q : Nat → Option Nat} {H H1 : Heap} (hR : aw_R G Ω I J H) (h1 : ∀ i, i < aw_nx Ω → I' i = I i) (h2 : ∀ i, i < aw_nx Ω → J' i = J i) (hz : H1.size = H.size + 1) (ho : ∀ x, x < H.size → H1[x]? = H[x]?) (hn : va_at (aw_D G) classes (aw_ad G (aw_nx Ω), aw_E G (aw_ext Ω S q) I' J' (aw_nx Ω)) H1) : aw_R G (aw_ext Ω S q) I' J' H1 := by
  refine ⟨?_, by rw [hz, hR.2, aw_ext_nx]; omega⟩
  rw [aw_ws_ext h1 h2]
  refine (hR.1.kept (fun k x hx => ho x.1 ((hR.1 k x hx).lt))).app (fun k x hx => ?_)
  have hk : k < 1 := (List.getElem?_eq_some_iff.mp hx).1
  rw [show k = 0 by omega] at hx
  cases hx
  exact hn
theorem aw_S_ext {G : aw_G} {H0 H H1 : Heap} {locs : List Loc} (hS : va_S (aw_A G) H0 H locs) (hz : H1.size = H.size + 1) (ho : ∀ x, x < H.size → H1[x]? = H[x]?) : va_S (aw_A G) H0 H1 locs := ⟨Nat.le_trans hS.1 (by omega), fun x h1 h2 => (ho x (Nat.lt_of_lt_of_le h1 hS.1)).trans (hS.2.1 x h1 h2), hS.2.2⟩
theorem aw_wI : Cond.arrayClass .int ∈ aw_tbl := aw_pl 125 (by decide +kernel) rfl
theorem aw_wJ : Cond.arrayClass .long ∈ aw_tbl := aw_pl 159 (by decide +kernel) rfl
section AWN
variable {G : aw_G} {M M' : aw_M} {N0 d d' mc ms : Nat} {Q : aw_Q} {Ω : aw_O} {I : aw_MI} {J : aw_MJ} {k n : Nat} {lv : List Value} {pc : Nat} {st : List Value}
theorem aw_newaI {N : Nat} (hd : decode (aw_cc M) pc = .ok (.newarray .int, 2)) (hN : N ≤ 1000) (hk : k + 1 ≤ mc) (hn : n + N ≤ ms) (kk : AW G M N0 d mc ms Q (aw_ext Ω (.inr (0, N)) (fun _ => none)) (aw_z I (aw_nx Ω) 0) (aw_z J (aw_nx Ω) 0) (k + 1) (n + N) lv (pc + 2) (.ref (aw_ad G (aw_nx Ω)) :: st)) : AW G M N0 d mc ms Q Ω I J k n lv pc (.int (nI N) :: st) := by
  intro p e R s m args below meth c H locs ls Z hF hl hR hS hE
  have hFx := hF
  obtain ⟨hxx, hb, hr, hlk, hml, hown, hts, hK, hnm, hfr, hlo, hmc, hms, hsz, hsc⟩ := hF
  refine va_newaK (atype := .int) (N := N) hxx hb (hts _ aw_wI) rfl hd rfl (nI_pos (by omega)) (nI_clamp (by omega)) (by show N * 4 ≤ 536870912; omega) (by omega) (by omega) hR.2 (fun H1 cA e1 z1 o1 hAr hNm => ?_)
  have hcA : cA = aw_cI G := Option.some.inj (hNm.symm.trans (hK.1.2 0 _ rfl).2)
  subst hcA
  refine kk p e R s m args below meth c H1 locs ls Z hFx hl (aw_R_ext hR (fun i hi => aw_z_off I 0 (Nat.ne_of_lt hi)) (fun i hi => aw_z_off J 0 (Nat.ne_of_lt hi)) (by rw [z1, hR.2]) (fun x hx => o1 x (by rw [← hR.2]; exact hx)) ?_) (aw_S_ext hS (by rw [z1, hR.2]) (fun x hx => o1 x (by rw [← hR.2]; exact hx))) hE
  simp only [aw_E, (aw_ext_new Ω (.inr (0, N)) (fun _ => none)).2]
  show H1[aw_bs G + aw_nx Ω]? = _
  rw [e1, vp_cell_i]
  congr 2
  funext j
  rw [aw_z_at]
  rfl
theorem aw_newaJ {N : Nat} (hd : decode (aw_cc M) pc = .ok (.newarray .long, 2)) (hN : N ≤ 1000) (hk : k + 1 ≤ mc) (hn : n + N ≤ ms) (kk : AW G M N0 d mc ms Q (aw_ext Ω (.inr (1, N)) (fun _ => none)) (aw_z I (aw_nx Ω) 0) (aw_z J (aw_nx Ω) 0) (k + 1) (n + N) lv (pc + 2) (.ref (aw_ad G (aw_nx Ω)) :: st)) : AW G M N0 d mc ms Q Ω I J k n lv pc (.int (nI N) :: st) := by
  intro p e R s m args below meth c H locs ls Z hF hl hR hS hE
  have hFx := hF
  obtain ⟨hxx, hb, hr, hlk, hml, hown, hts, hK, hnm, hfr, hlo, hmc, hms, hsz, hsc⟩ := hF
  refine va_newaK (atype := .long) (N := N) hxx hb (hts _ aw_wJ) rfl hd rfl (nI_pos (by omega)) (nI_clamp (by omega)) (by show N * 8 ≤ 536870912; omega) (by omega) (by omega) hR.2 (fun H1 cA e1 z1 o1 hAr hNm => ?_)
  have hcA : cA = aw_cJ G := Option.some.inj (hNm.symm.trans (hK.1.2 1 _ rfl).2)
  subst hcA
  refine kk p e R s m args below meth c H1 locs ls Z hFx hl (aw_R_ext hR (fun i hi => aw_z_off I 0 (Nat.ne_of_lt hi)) (fun i hi => aw_z_off J 0 (Nat.ne_of_lt hi)) (by rw [z1, hR.2]) (fun x hx => o1 x (by rw [← hR.2]; exact hx)) ?_) (aw_S_ext hS (by rw [z1, hR.2]) (fun x hx => o1 x (by rw [← hR.2]; exact hx))) hE
  simp only [aw_E, (aw_ext_new Ω (.inr (1, N)) (fun _ => none)).2]
  show H1[aw_bs G + aw_nx Ω]? = _
  rw [e1, vp_cell_l]
  congr 2
  funext j
  rw [aw_z_at]
  rfl
end AWN
