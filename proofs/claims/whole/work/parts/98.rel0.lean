/-! BEHIND BOTH CONSTRUCTORS -/
def lI : aw_MI := cI_X8 (aw_z (cI_X7 (aw_z (fun _ _ => 0) 0 0)) 65 0)
def lJ : aw_MJ := cJ_X8 (aw_z (cJ_X7 (aw_z (fun _ _ => 0) 0 0)) 65 0)
theorem l_bw : re_bw lI 2 0 0 := by
  refine ⟨by decide, ⟨by decide +kernel, by decide +kernel, by decide +kernel, by decide +kernel, by decide +kernel, by decide +kernel⟩, ?_, ?_, fun l hl => absurd hl (by omega), ?_, ?_, fun l hl => absurd hl (by omega)⟩
  · show ∀ k, k < 9 → lI 2 k = lI 66 k
    decide +kernel
  · show ∀ k, k < 3 → lI 3 k = lI 67 k
    decide +kernel
  · have h : ∀ r, r < 3 → ∀ k, k < 3 → lI 66 (3 * r + k) = lI 66 (3 * k + r) ∧ (lI 66 (3 * r + k)).toInt.natAbs ≤ if r = k then 20 else 9 := by decide +kernel
    exact fun r k hr hk => h r hr k hk
  · decide +kernel
theorem l_sh1 : ∀ s, s < 4 → lI 57 s = lI 81 s ∧ lI 58 s = lI 82 s ∧ lI 57 s = -1 ∧ lI 58 s = nI 0 := by decide +kernel
theorem l_sh2 : ∀ s, s < 4 → ∀ i, i < 12 → lJ 59 (s * 12 + i) = lJ 83 (12 * s + i) := by decide +kernel
theorem l_bo : re_bo lI lJ := by
  refine ⟨by decide +kernel, by decide +kernel, by decide +kernel, by decide +kernel, Or.inl (by decide +kernel), ?_⟩
  decide +kernel
theorem l_rel : Rel cO_X8 lI lJ := by
  refine ⟨⟨cO_main, cO_model, by rw [cO_nx]; exact Nat.le_refl _⟩, ⟨2, 0, 0, l_bw⟩, ⟨by decide +kernel, fun e => absurd (by decide +kernel) e⟩, fun s hs => ?_, l_bo⟩
  obtain ⟨h1, h2, h3, h4⟩ := l_sh1 s hs
  exact ⟨h1, h2, Or.inl h3, ⟨0, by omega, h4⟩, l_sh2 s hs⟩
