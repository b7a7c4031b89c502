theorem op_solve {σ ρ : ST} (hR : Rel σ ρ) (x : Int32) : ∃ r σ' ρ', C_solve σ x = some (r, σ') ∧ M_solve ρ x = some (r, ρ') ∧ Rel σ' ρ' := sorry
theorem op_nested {σ ρ : ST} (hR : Rel σ ρ) : ∃ r σ' ρ', C_nested σ = some (r, σ') ∧ M_nested ρ = some (r, ρ') ∧ Rel σ' ρ' := sorry
