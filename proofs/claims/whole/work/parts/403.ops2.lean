/-! PURE: what only reads -/
theorem sol_or {g : GD} {pe : Nat → Nat} {σ ρ : ST} (h : (gi σ 0 0 8 = 0 ∧ gi ρ 0 0 9 = 0) ∨ Sol g pe σ ρ) : (gi σ 0 0 8 = 0 ∧ gi ρ 0 0 9 = 0) ∨ (¬ gi σ 0 0 8 = 0 ∧ ¬ gi ρ 0 0 9 = 0 ∧ Sol g pe σ ρ) := by
  rcases h with h | h
  · exact Or.inl h
  · refine Or.inr ⟨?_, ?_, h⟩
    · rw [h.1]; decide
    · rw [h.2.1]; decide
theorem op_repetitions {σ ρ : ST} (hR : Rel σ ρ) (x : Int32) : ∃ r, C_repetitions σ x = some r ∧ M_repetitions ρ x = some r := by
  obtain ⟨g, pm, pe, hw, hc, hm, hs⟩ := hR
  have h10 : ¬ (1 : Int32) = 0 := by decide
  unfold C_repetitions M_repetitions
  rcases act hw hc hm x with ⟨a, ha, ta, rfl, c1, m1⟩ | ⟨c1, m1⟩
  rotate_left
  · rw [c1, m1]
    exact ⟨-1, by simp, by simp⟩
  rw [c1, m1]
  simp only [Option.bind_some, if_neg h10]
  rcases sol_or hs with ⟨s1, s2⟩ | ⟨s1, s2, sd⟩
  · rw [if_pos s1, if_pos s2]
    exact ⟨-4, rfl, rfl⟩
  · rw [if_neg s1, if_neg s2, if_pos (nb ha (by decide)), if_pos (nb ha (by decide)), nx (by omega)]
    obtain ⟨-, -, sd, tk, la, fx, sx, fi, -, -, hC, hM⟩ := sd
    exact ⟨_, rfl, by rw [(hC.1 a ha ta).1, (hM.1 a ha ta).1]⟩
theorem op_schedule {σ ρ : ST} (hR : Rel σ ρ) (x : Int32) : ∃ r, C_schedule σ x = some r ∧ M_schedule ρ x = some r := by
  obtain ⟨g, pm, pe, hw, hc, hm, hs⟩ := hR
  have h10 : ¬ (1 : Int32) = 0 := by decide
  unfold C_schedule M_schedule
  rcases sol_or hs with ⟨s1, s2⟩ | ⟨s1, s2, sd⟩
  · rw [if_pos s1, if_pos s2]
    exact ⟨-4, rfl, rfl⟩
  · rw [if_neg s1, if_neg s2]
    obtain ⟨-, -, sd, tk, la, fx, sx, fi, hv, -, hC, hM⟩ := sd
    have h64 := hv.1
    rw [hC.2.1, hM.2.1]
    rcases pk_ix x (n := ln sd) (by omega) with h | h | ⟨i, hi, rfl⟩
    · rw [eg_out (by omega) (Or.inl h), if_pos h]
      exact ⟨-1, by simp, rfl⟩
    · rw [eg_out (by omega) (Or.inr h), if_neg (show ¬ x < nI (ln sd) from Int32.not_lt.mpr h)]
      exact ⟨-1, by simp, by simp⟩
    · rw [eg_in hi (by omega), if_neg (nn0 (by omega)), if_pos (show nI i < nI (ln sd) by rw [n_lt (by omega) (by omega)]; exact hi)]
      simp only [Option.bind_some, if_neg h10]
      have h6 : inb (nI i) 64 := nb (by omega) (by decide)
      rw [if_pos h6, if_pos h6, nx (by omega)]
      exact ⟨_, rfl, by rw [hC.2.2.1 i hi, hM.2.2.1 i hi]⟩
theorem op_peak {σ ρ : ST} (hR : Rel σ ρ) (x : Int32) : ∃ r, C_peak σ x = some r ∧ M_peak ρ x = some r := by
  obtain ⟨g, pm, pe, hw, hc, hm, hs⟩ := hR
  have h12 := hw.1
  have h10 : ¬ (1 : Int32) = 0 := by decide
  unfold C_peak M_peak
  rcases edg hw hc hm x with ⟨e, he, rfl, c1, m0, m1⟩ | ⟨c1, m1⟩
  · rw [c1, if_neg m0, if_pos m1]
    simp only [Option.bind_some, if_neg h10]
    rcases sol_or hs with ⟨s1, s2⟩ | ⟨s1, s2, sd⟩
    · rw [if_pos s1, if_pos s2]
      exact ⟨-4, rfl, rfl⟩
    · obtain ⟨q1, q2⟩ := hc.2.2.1 e (by omega)
      rw [if_neg s1, if_neg s2, if_pos (nb (by omega) (by decide)), if_pos (nb (by omega) (by decide)), nx (by omega), q1, nx (by omega), if_pos q2]
      obtain ⟨-, -, sd, tk, la, fx, sx, fi, -, -, hC, hM⟩ := sd
      exact ⟨_, rfl, by rw [(hC.2.2.2.2 e he).1, (hM.2.2.2.2 e he).1]⟩
  · rw [c1]
    refine ⟨-1, by simp, ?_⟩
    rcases m1 with m1 | ⟨m0, m1⟩
    · rw [if_pos m1]
    · rw [if_neg m0, if_neg m1]
theorem op_tokens {σ ρ : ST} (hR : Rel σ ρ) (x : Int32) : ∃ r, C_tokens σ x = some r ∧ M_tokens ρ x = some r := by
  obtain ⟨g, pm, pe, hw, hc, hm, hs⟩ := hR
  have h12 := hw.1
  have h10 : ¬ (1 : Int32) = 0 := by decide
  unfold C_tokens M_tokens
  rcases edg hw hc hm x with ⟨e, he, rfl, c1, m0, m1⟩ | ⟨c1, m1⟩
  · rw [c1, if_neg m0, if_pos m1]
    simp only [Option.bind_some, if_neg h10]
    rcases sol_or hs with ⟨s1, s2⟩ | ⟨s1, s2, sd⟩
    · rw [if_pos s1, if_pos s2]
      exact ⟨-4, rfl, rfl⟩
    · obtain ⟨q1, q2⟩ := hc.2.2.1 e (by omega)
      rw [if_neg s1, if_neg s2, if_pos (nb (by omega) (by decide)), if_pos (nb (by omega) (by decide)), nx (by omega), q1, nx (by omega), if_pos q2]
      obtain ⟨-, -, sd, tk, la, fx, sx, fi, -, -, hC, hM⟩ := sd
      exact ⟨_, rfl, by rw [(hC.2.2.2.2 e he).2.1, (hM.2.2.2.2 e he).2.1]⟩
  · rw [c1]
    refine ⟨-1, by simp, ?_⟩
    rcases m1 with m1 | ⟨m0, m1⟩
    · rw [if_pos m1]
    · rw [if_neg m0, if_neg m1]
theorem op_latest {σ ρ : ST} (hR : Rel σ ρ) (x : Int32) : ∃ r, C_latest σ x = some r ∧ M_latest ρ x = some r := by
  obtain ⟨g, pm, pe, hw, hc, hm, hs⟩ := hR
  have h10 : ¬ (1 : Int32) = 0 := by decide
  unfold C_latest M_latest
  rcases sol_or hs with ⟨s1, s2⟩ | ⟨s1, s2, sd⟩
  · rw [if_pos s1]
    rcases act hw hc hm x with ⟨a, ha, ta, rfl, c1, m1⟩ | ⟨c1, m1⟩
    · rw [m1]
      exact ⟨_, rfl, by simp only [Option.bind_some, if_neg h10]; rw [if_pos s2]⟩
    · rw [m1]
      exact ⟨_, rfl, by simp⟩
  · rw [if_neg s1]
    rcases act hw hc hm x with ⟨a, ha, ta, rfl, c1, m1⟩ | ⟨c1, m1⟩
    · rw [c1, m1]
      simp only [Option.bind_some, if_neg h10]
      rw [if_neg s2, if_pos (nb ha (by decide)), if_pos (nb ha (by decide)), nx (by omega)]
      obtain ⟨-, -, sd, tk, la, fx, sx, fi, -, -, hC, hM⟩ := sd
      exact ⟨_, rfl, by rw [(hC.1 a ha ta).2.1, (hM.1 a ha ta).2.1]⟩
    · rw [c1, m1]
      exact ⟨-1000000000000, by simp, by simp⟩
theorem n_and255 {a : Nat} (h : a < 2147483648) : nI a &&& 255 = nI (a % 256) := by
  have := pk_andN (n := a) (by omega) (m := 255) 8 (by decide)
  simpa using this
theorem op_token {σ ρ : ST} (hR : Rel σ ρ) (x y : Int32) : ∃ r, C_token σ x y = some r ∧ M_token ρ x y = some r := by
  obtain ⟨g, pm, pe, hw, hc, hm, hs⟩ := hR
  have h12 := hw.1
  have h10 : ¬ (1 : Int32) = 0 := by decide
  unfold C_token M_token
  rcases sol_or hs with ⟨s1, s2⟩ | ⟨s1, s2, sd⟩
  · rw [if_pos s1, if_pos s2]
    refine ⟨_, rfl, ?_⟩
    split
    · rfl
    · split <;> rfl
  · rw [if_neg s1, if_neg s2]
    rcases edg hw hc hm x with ⟨e, he, rfl, c1, m0, m1⟩ | ⟨c1, m1⟩
    · rw [c1, if_neg m0, if_neg (Int32.not_le.mpr m1)]
      obtain ⟨q1, q2⟩ := hc.2.2.1 e (by omega)
      simp only [Option.bind_some, if_neg h10]
      rw [if_pos (nb (by omega) (by decide)), if_pos (nb (by omega) (by decide)), nx (by omega), q1, nx (by omega), if_pos q2]
      obtain ⟨-, -, sd, tk, la, fx, sx, fi, -, -, hC, hM⟩ := sd
      obtain ⟨-, c2, st, st1, st2, st3⟩ := hC.2.2.2.2 e he
      obtain ⟨-, m2, m3⟩ := hM.2.2.2.2 e he
      obtain ⟨-, -, -, -, -, -, -, -, hdl⟩ := hw.2.2 e he
      rw [c2, m2]
      rcases pk_ix y (n := dl g e) (by omega) with h | h | ⟨i, hi, rfl⟩
      · rw [eg_out (by omega) (Or.inl h), if_pos h]
        exact ⟨-1000000000000, by simp, rfl⟩
      · rw [eg_out (by omega) (Or.inr h), if_neg (show ¬ y < nI (dl g e) from Int32.not_lt.mpr h)]
        exact ⟨-1000000000000, by simp, by simp⟩
      · rw [eg_in hi (by omega), if_neg (nn0 (by omega)), if_pos (by rw [n_lt (by omega) (by omega)]; exact hi)]
        simp only [Option.bind_some, if_neg h10]
        have e4 : nI e * 400 + nI i = nI (e * 400 + i) := by
          rw [show (400 : Int32) = nI 400 from rfl, pk_mul, nI_add]
        rw [e4, if_pos (nb (by omega) (by decide)), nx (by omega), m3 i hi]
        unfold C_Edge_at
        rw [st2, nI_add, n_and255 (by omega), if_pos (nb (by omega) (by decide)), nx (by omega), st3 i hi]
        exact ⟨_, rfl, rfl⟩
    · rw [c1]
      refine ⟨-1000000000000, by simp, ?_⟩
      rcases m1 with m1 | ⟨m0, m1⟩
      · rw [if_pos m1]
      · rw [if_neg m0, if_pos (Int32.not_lt.mp m1)]
