/-! PURE: the law's loop answers 1 -/
theorem lw_cond {L i : Nat} (hL : L ≤ 3072) (hi : i ≤ 4000) : (nI L - 6 < nI i) = (L < i + 6) := by
  rw [show (6 : Int32) = nI 6 from rfl]
  apply propext
  rw [Int32.lt_iff_toInt_lt, pk_sub_toInt (by omega) (by omega), nI_toInt (by omega)]
  omega
theorem law_step (sc : Nat → Int32) (L : Nat) (hL : L ≤ 3072) (σ ρ : ST) (i : Nat) (hi : i + 6 ≤ L) (hR : Rel σ ρ) : ∃ σ' ρ', L_body sc L (σ, ρ, nI i) = some (.inl (σ', ρ', nI (i + 6))) ∧ Rel σ' ρ' := by
  unfold L_body
  dsimp only
  rw [if_neg (by rw [lw_cond hL (by omega)]; omega), if_pos (nb (by omega) (by omega))]
  obtain ⟨t, ht, et⟩ := pk_andE (sc (ix (nI i))) (m := 15) 4 (by decide)
  rw [et]
  have e6 : nI i + 6 = nI (i + 6) := nI_add i 6
  have e1 : nI i + 1 = nI (i + 1) := nI_add i 1
  have k1 : inb (nI i + 1) L := by rw [e1]; exact nb (by omega) (by omega)
  have e2 : nI i + 2 = nI (i + 2) := nI_add i 2
  have k2 : inb (nI i + 2) L := by rw [e2]; exact nb (by omega) (by omega)
  have e3 : nI i + 3 = nI (i + 3) := nI_add i 3
  have k3 : inb (nI i + 3) L := by rw [e3]; exact nb (by omega) (by omega)
  have e4 : nI i + 4 = nI (i + 4) := nI_add i 4
  have k4 : inb (nI i + 4) L := by rw [e4]; exact nb (by omega) (by omega)
  have e5 : nI i + 5 = nI (i + 5) := nI_add i 5
  have k5 : inb (nI i + 5) L := by rw [e5]; exact nb (by omega) (by omega)
  rw [e6]
  rcases (show t = 0 ∨ t = 1 ∨ t = 2 ∨ t = 3 ∨ t = 4 ∨ t = 5 ∨ t = 6 ∨ t = 7 ∨ t = 8 ∨ t = 9 ∨ t = 10 ∨ t = 11 ∨ t = 12 ∨ t = 13 ∨ t = 14 ∨ t = 15 by omega) with rfl | rfl | rfl | rfl | rfl | rfl | rfl | rfl | rfl | rfl | rfl | rfl | rfl | rfl | rfl | rfl
  · rw [if_pos (show nI 0 = 0 from rfl), if_pos k1, if_pos k2, if_pos k3]
    obtain ⟨r, σ1, ρ1, h1, h2, h3⟩ := op_actor hR (sc (ix (nI i + 1))) (sc (ix (nI i + 2))) (sc (ix (nI i + 3)))
    rw [h1]
    simp only [Option.bind_some]
    rw [h2]
    simp only [Option.bind_some]
    rw [if_pos trivial]
    exact ⟨_, _, rfl, h3⟩
  · rw [if_neg (show ¬ nI 1 = 0 by decide), if_pos (show nI 1 = 1 from rfl), if_pos k1, if_pos k2, if_pos k3, if_pos k4, if_pos k5]
    obtain ⟨r, σ1, ρ1, h1, h2, h3⟩ := op_edge hR (sc (ix (nI i + 1))) (sc (ix (nI i + 2))) (sc (ix (nI i + 3))) (sc (ix (nI i + 4))) (sc (ix (nI i + 5)))
    rw [h1]
    simp only [Option.bind_some]
    rw [h2]
    simp only [Option.bind_some]
    rw [if_pos trivial]
    exact ⟨_, _, rfl, h3⟩
  · rw [if_neg (show ¬ nI 2 = 0 by decide), if_neg (show ¬ nI 2 = 1 by decide), if_pos (show nI 2 = 2 from rfl), if_pos k1]
    obtain ⟨r, σ1, ρ1, h1, h2, h3⟩ := op_unedge hR (sc (ix (nI i + 1)))
    rw [h1]
    simp only [Option.bind_some]
    rw [h2]
    simp only [Option.bind_some]
    rw [if_pos trivial]
    exact ⟨_, _, rfl, h3⟩
  · rw [if_neg (show ¬ nI 3 = 0 by decide), if_neg (show ¬ nI 3 = 1 by decide), if_neg (show ¬ nI 3 = 2 by decide), if_pos (show nI 3 = 3 from rfl), if_pos k1]
    obtain ⟨r, σ1, ρ1, h1, h2, h3⟩ := op_solve hR (sc (ix (nI i + 1)))
    rw [h1]
    simp only [Option.bind_some]
    rw [h2]
    simp only [Option.bind_some]
    rw [if_pos trivial]
    exact ⟨_, _, rfl, h3⟩
  · rw [if_neg (show ¬ nI 4 = 0 by decide), if_neg (show ¬ nI 4 = 1 by decide), if_neg (show ¬ nI 4 = 2 by decide), if_neg (show ¬ nI 4 = 3 by decide), if_pos (show nI 4 = 4 from rfl), if_pos k1]
    obtain ⟨r, σ1, ρ1, h1, h2, h3⟩ := op_run hR (sc (ix (nI i + 1)))
    rw [h1]
    simp only [Option.bind_some]
    rw [h2]
    simp only [Option.bind_some]
    rw [if_pos trivial]
    exact ⟨_, _, rfl, h3⟩
  · rw [if_neg (show ¬ nI 5 = 0 by decide), if_neg (show ¬ nI 5 = 1 by decide), if_neg (show ¬ nI 5 = 2 by decide), if_neg (show ¬ nI 5 = 3 by decide), if_neg (show ¬ nI 5 = 4 by decide), if_pos (show nI 5 = 5 from rfl), if_pos k1]
    obtain ⟨r, h1, h2⟩ := op_repetitions hR (sc (ix (nI i + 1)))
    rw [h1]
    simp only [Option.bind_some]
    rw [h2]
    simp only [Option.bind_some]
    rw [if_pos trivial]
    exact ⟨_, _, rfl, hR⟩
  · rw [if_neg (show ¬ nI 6 = 0 by decide), if_neg (show ¬ nI 6 = 1 by decide), if_neg (show ¬ nI 6 = 2 by decide), if_neg (show ¬ nI 6 = 3 by decide), if_neg (show ¬ nI 6 = 4 by decide), if_neg (show ¬ nI 6 = 5 by decide), if_pos (show nI 6 = 6 from rfl), if_pos k1]
    obtain ⟨r, h1, h2⟩ := op_schedule hR (sc (ix (nI i + 1)))
    rw [h1]
    simp only [Option.bind_some]
    rw [h2]
    simp only [Option.bind_some]
    rw [if_pos trivial]
    exact ⟨_, _, rfl, hR⟩
  · rw [if_neg (show ¬ nI 7 = 0 by decide), if_neg (show ¬ nI 7 = 1 by decide), if_neg (show ¬ nI 7 = 2 by decide), if_neg (show ¬ nI 7 = 3 by decide), if_neg (show ¬ nI 7 = 4 by decide), if_neg (show ¬ nI 7 = 5 by decide), if_neg (show ¬ nI 7 = 6 by decide), if_pos (show nI 7 = 7 from rfl), if_pos k1]
    obtain ⟨r, h1, h2⟩ := op_peak hR (sc (ix (nI i + 1)))
    rw [h1]
    simp only [Option.bind_some]
    rw [h2]
    simp only [Option.bind_some]
    rw [if_pos trivial]
    exact ⟨_, _, rfl, hR⟩
  · rw [if_neg (show ¬ nI 8 = 0 by decide), if_neg (show ¬ nI 8 = 1 by decide), if_neg (show ¬ nI 8 = 2 by decide), if_neg (show ¬ nI 8 = 3 by decide), if_neg (show ¬ nI 8 = 4 by decide), if_neg (show ¬ nI 8 = 5 by decide), if_neg (show ¬ nI 8 = 6 by decide), if_neg (show ¬ nI 8 = 7 by decide), if_pos (show nI 8 = 8 from rfl)]
    obtain ⟨r, σ1, ρ1, h1, h2, h3⟩ := op_nested hR
    rw [h1]
    simp only [Option.bind_some]
    rw [h2]
    simp only [Option.bind_some]
    rw [if_pos trivial]
    exact ⟨_, _, rfl, h3⟩
  · rw [if_neg (show ¬ nI 9 = 0 by decide), if_neg (show ¬ nI 9 = 1 by decide), if_neg (show ¬ nI 9 = 2 by decide), if_neg (show ¬ nI 9 = 3 by decide), if_neg (show ¬ nI 9 = 4 by decide), if_neg (show ¬ nI 9 = 5 by decide), if_neg (show ¬ nI 9 = 6 by decide), if_neg (show ¬ nI 9 = 7 by decide), if_neg (show ¬ nI 9 = 8 by decide), if_pos (show nI 9 = 9 from rfl), if_pos k1]
    obtain ⟨r, h1, h2⟩ := op_latest hR (sc (ix (nI i + 1)))
    rw [h1]
    simp only [Option.bind_some]
    rw [h2]
    simp only [Option.bind_some]
    rw [if_pos (by simp [lg_cmp])]
    exact ⟨_, _, rfl, hR⟩
  · rw [if_neg (show ¬ nI 10 = 0 by decide), if_neg (show ¬ nI 10 = 1 by decide), if_neg (show ¬ nI 10 = 2 by decide), if_neg (show ¬ nI 10 = 3 by decide), if_neg (show ¬ nI 10 = 4 by decide), if_neg (show ¬ nI 10 = 5 by decide), if_neg (show ¬ nI 10 = 6 by decide), if_neg (show ¬ nI 10 = 7 by decide), if_neg (show ¬ nI 10 = 8 by decide), if_neg (show ¬ nI 10 = 9 by decide), if_pos (show nI 10 = 10 from rfl), if_pos k1, if_pos k2]
    obtain ⟨r, h1, h2⟩ := op_token hR (sc (ix (nI i + 1))) (sc (ix (nI i + 2)))
    rw [h1]
    simp only [Option.bind_some]
    rw [h2]
    simp only [Option.bind_some]
    rw [if_pos (by simp [lg_cmp])]
    exact ⟨_, _, rfl, hR⟩
  · rw [if_neg (show ¬ nI 11 = 0 by decide), if_neg (show ¬ nI 11 = 1 by decide), if_neg (show ¬ nI 11 = 2 by decide), if_neg (show ¬ nI 11 = 3 by decide), if_neg (show ¬ nI 11 = 4 by decide), if_neg (show ¬ nI 11 = 5 by decide), if_neg (show ¬ nI 11 = 6 by decide), if_neg (show ¬ nI 11 = 7 by decide), if_neg (show ¬ nI 11 = 8 by decide), if_neg (show ¬ nI 11 = 9 by decide), if_neg (show ¬ nI 11 = 10 by decide), if_pos (show nI 11 = 11 from rfl), if_pos k1]
    obtain ⟨r, h1, h2⟩ := op_tokens hR (sc (ix (nI i + 1)))
    rw [h1]
    simp only [Option.bind_some]
    rw [h2]
    simp only [Option.bind_some]
    rw [if_pos trivial]
    exact ⟨_, _, rfl, hR⟩
  · rw [if_neg (show ¬ nI 12 = 0 by decide), if_neg (show ¬ nI 12 = 1 by decide), if_neg (show ¬ nI 12 = 2 by decide), if_neg (show ¬ nI 12 = 3 by decide), if_neg (show ¬ nI 12 = 4 by decide), if_neg (show ¬ nI 12 = 5 by decide), if_neg (show ¬ nI 12 = 6 by decide), if_neg (show ¬ nI 12 = 7 by decide), if_neg (show ¬ nI 12 = 8 by decide), if_neg (show ¬ nI 12 = 9 by decide), if_neg (show ¬ nI 12 = 10 by decide), if_neg (show ¬ nI 12 = 11 by decide), if_pos (show nI 12 = 12 from rfl), if_pos k1]
    obtain ⟨r, σ1, ρ1, h1, h2, h3⟩ := op_count hR (sc (ix (nI i + 1))) (fun e => by rw [e]; exact op_count2 hR)
    rw [h1]
    simp only [Option.bind_some]
    rw [h2]
    simp only [Option.bind_some]
    rw [if_pos trivial]
    exact ⟨_, _, rfl, h3⟩
  · rw [if_neg (show ¬ nI 13 = 0 by decide), if_neg (show ¬ nI 13 = 1 by decide), if_neg (show ¬ nI 13 = 2 by decide), if_neg (show ¬ nI 13 = 3 by decide), if_neg (show ¬ nI 13 = 4 by decide), if_neg (show ¬ nI 13 = 5 by decide), if_neg (show ¬ nI 13 = 6 by decide), if_neg (show ¬ nI 13 = 7 by decide), if_neg (show ¬ nI 13 = 8 by decide), if_neg (show ¬ nI 13 = 9 by decide), if_neg (show ¬ nI 13 = 10 by decide), if_neg (show ¬ nI 13 = 11 by decide), if_neg (show ¬ nI 13 = 12 by decide)]
    exact ⟨_, _, rfl, hR⟩
  · rw [if_neg (show ¬ nI 14 = 0 by decide), if_neg (show ¬ nI 14 = 1 by decide), if_neg (show ¬ nI 14 = 2 by decide), if_neg (show ¬ nI 14 = 3 by decide), if_neg (show ¬ nI 14 = 4 by decide), if_neg (show ¬ nI 14 = 5 by decide), if_neg (show ¬ nI 14 = 6 by decide), if_neg (show ¬ nI 14 = 7 by decide), if_neg (show ¬ nI 14 = 8 by decide), if_neg (show ¬ nI 14 = 9 by decide), if_neg (show ¬ nI 14 = 10 by decide), if_neg (show ¬ nI 14 = 11 by decide), if_neg (show ¬ nI 14 = 12 by decide)]
    exact ⟨_, _, rfl, hR⟩
  · rw [if_neg (show ¬ nI 15 = 0 by decide), if_neg (show ¬ nI 15 = 1 by decide), if_neg (show ¬ nI 15 = 2 by decide), if_neg (show ¬ nI 15 = 3 by decide), if_neg (show ¬ nI 15 = 4 by decide), if_neg (show ¬ nI 15 = 5 by decide), if_neg (show ¬ nI 15 = 6 by decide), if_neg (show ¬ nI 15 = 7 by decide), if_neg (show ¬ nI 15 = 8 by decide), if_neg (show ¬ nI 15 = 9 by decide), if_neg (show ¬ nI 15 = 10 by decide), if_neg (show ¬ nI 15 = 11 by decide), if_neg (show ¬ nI 15 = 12 by decide)]
    exact ⟨_, _, rfl, hR⟩
theorem law_pure (sc : Nat → Int32) (L : Nat) (hL : L ≤ 3072) : ∃ n, lp (L_body sc L) n (zC, zM, 0) = some 1 := by
  obtain ⟨r, h1, h2⟩ := lp_inv (body := L_body sc L) (fun s => ∃ i, s.2.2 = nI i ∧ i ≤ 3078 ∧ Rel s.1 s.2.1) (fun s => 4000 - ix s.2.2) (fun r => r = 1) (by
    intro s hI
    obtain ⟨σ, ρ, x⟩ := s
    obtain ⟨i, e, hi, hR⟩ := hI
    have e : x = nI i := e
    subst e
    by_cases hc : L < i + 6
    · right
      refine ⟨1, ?_, rfl⟩
      unfold L_body
      dsimp only
      rw [if_pos (by rw [lw_cond hL (by omega)]; exact hc)]
    · left
      obtain ⟨σ', ρ', h1, h2⟩ := law_step sc L hL σ ρ i (by omega) hR
      refine ⟨_, h1, ⟨i + 6, rfl, by omega, h2⟩, ?_⟩
      dsimp only
      rw [nx (by omega), nx (by omega)]
      omega) 5000 (zC, zM, 0) ⟨0, rfl, by omega, rel_init⟩ (by dsimp only; omega)
  exact ⟨5000, by rw [h1, h2]⟩
