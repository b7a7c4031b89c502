theorem op_nested {σ ρ : ST} (hR : Rel σ ρ) : ∃ r σ' ρ', C_nested σ = some (r, σ') ∧ M_nested ρ = some (r, ρ') ∧ Rel σ' ρ' := sorry
