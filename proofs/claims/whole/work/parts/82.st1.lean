/-! EACH CALL: class and reference answer alike, and stay alike -/
theorem Rel.f {Ω : aw_O} {I : aw_MI} {J : aw_MJ} (R : Rel Ω I J) : ∃ n m t, (aw_main Ω 0 ∧ aw_model Ω 65 ∧ 84 ≤ aw_nx Ω) ∧ (1 ≤ n ∧ n ≤ 3 ∧ m ≤ 6 ∧ t ≤ 40) ∧ (I 1 0 = nI n ∧ I 1 1 = nI t ∧ I 1 2 = nI m) ∧ ∀ I1, vI I I1 → (I1 65 0 = nI n ∧ I1 65 3 = nI t ∧ I1 65 4 = nI m) ∧ ag I I1 1 n m ∧ rg I1 n m := by
  obtain ⟨h1, ⟨n, m, t, h2⟩, -⟩ := R
  refine ⟨n, m, t, h1, h2.1, ⟨h2.2.1.1, h2.2.1.2.1, h2.2.1.2.2.1⟩, fun I1 v => ?_⟩
  have h3 : bw I 1 (I1 65 0) (I1 65 3) (I1 65 4) (I1 66) (I1 67) (I1 68) n m t := bw_c h2 (fun _ _ => rfl) (fun _ _ => rfl) (fun _ _ => rfl) (fun _ _ => ⟨rfl, rfl, rfl⟩) (fun _ _ => rfl) (v _ _ (by omega)) (v _ _ (by omega)) (v _ _ (by omega)) (fun k _ => v _ _ (by omega)) (fun k _ => v _ _ (by omega)) (fun k _ => v _ _ (by omega))
  exact ⟨⟨h3.2.1.2.2.2.1, h3.2.1.2.2.2.2.1, h3.2.1.2.2.2.2.2⟩, bw_ag h3⟩
theorem nI_m1n {w : Nat} (h : w < 2 ^ 31) : ¬ nI w = -1 := fun e => by
  have h1 := congrArg Int32.toInt e
  rw [nI_toInt h] at h1
  have h2 : (-1 : Int32).toInt = -1 := by decide
  omega
theorem set_in : ∀ m, m < 7 → ∀ S, S < 2 ^ m → ¬ sp_set (nI S) m = 0 := by decide +kernel
theorem set_eq {x : Int32} {m : Nat} (hm : m ≤ 6) : sp_set x m = 0 ↔ sp_var x (2 ^ m) = 0 := by
  have h64 : 2 ^ m ≤ 2 ^ 6 := Nat.pow_le_pow_right (by decide) hm
  constructor
  · intro h
    refine Classical.byContradiction (fun e => ?_)
    obtain ⟨S, h1, h2⟩ := sp_var1 e
    rw [h2] at h
    exact set_in m (by omega) S h1 h
  · intro h
    refine Classical.byContradiction (fun e => ?_)
    obtain ⟨S, h1, h2⟩ := sp_set1 hm e
    rw [h2, sp_varS h1 (by omega)] at h
    exact absurd h (by decide)
theorem of_has : ∀ S, S < 64 → ∀ c, c < 6 → (sp_of (nI S) (nI c) = 0 ↔ sp_has (nI S) (nI c) = 0) := by decide +kernel
theorem of_eq {x y : Int32} {m : Nat} (hm : m ≤ 6) : (sp_set x m = 0 ∨ sp_var y m = 0 ∨ sp_of x y = 0) ↔ (sp_var x (2 ^ m) = 0 ∨ sp_var y m = 0 ∨ sp_has x y = 0) := by
  rw [set_eq hm]
  by_cases e1 : sp_var x (2 ^ m) = 0
  · simp [e1]
  by_cases e2 : sp_var y m = 0
  · simp [e2]
  obtain ⟨S, h1, h2⟩ := sp_var1 e1
  obtain ⟨i, h3, h4⟩ := sp_var1 e2
  have := of_has S (lt64 hm h1) i (by omega)
  rw [h2, h4, this]
