theorem pr_candidates {σ τ : St} (hR : R_ok σ τ) : Pair (wX9_candidates σ) (wX10_candidates τ) := by
  sorry
theorem pr_roles {σ τ : St} (hR : R_ok σ τ) (a : Int32) : Pair (wX9_roles σ a) (wX10_roles τ a) := by
  sorry
theorem pr_least {σ τ : St} (hR : R_ok σ τ) (a : Int32) : PairR (wX9_least σ a) (wX10_least τ a) := by
  sorry
