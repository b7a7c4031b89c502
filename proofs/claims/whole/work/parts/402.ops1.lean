/-! PURE: edge, and what reads -/
theorem n0 : (0 : Int32) = nI 0 := rfl
theorem n1 : (1 : Int32) = nI 1 := rfl
theorem n_sub1 {n : Nat} (h : 1 ≤ n) : nI n - 1 = nI (n - 1) := by
  obtain ⟨m, rfl⟩ : ∃ m, n = m + 1 := ⟨n - 1, by omega⟩
  rw [nI_pred]
  rfl
theorem n_add1 (n : Nat) : nI n + 1 = nI (n + 1) := nI_1 n
theorem nn0 {a : Nat} (h : a < 2147483648) : ¬ nI a < 0 := nI_pos (by omega)
theorem eg_in {e n : Nat} (h : e < n) (hn : n < 2147483648) : C_isWithin (nI e) 0 (nI n - 1) = some 1 := by
  rw [n_sub1 (by omega)]
  exact w_in (lo := 0) (by omega) (by omega) (by omega)
theorem eg_out {x : Int32} {n : Nat} (hn : n < 2147483648) (h : x < 0 ∨ nI n ≤ x) : C_isWithin x 0 (nI n - 1) = some 0 := by
  rcases h with h | h
  · exact w_out (Or.inl h)
  · by_cases h0 : x < 0
    · exact w_out (Or.inl h0)
    · refine w_out (Or.inr ?_)
      rw [Int32.lt_iff_toInt_lt]
      have g1 := Int32.le_iff_toInt_le.mp h
      rw [nI_toInt (by omega)] at g1
      have g2 := Int32.le_iff_toInt_le.mp (Int32.not_lt.mp h0)
      have g3 : (0 : Int32).toInt = 0 := rfl
      by_cases hz : n = 0
      · subst hz
        have : (nI 0 - 1).toInt = -1 := by decide
        omega
      · rw [n_sub1 (by omega), nI_toInt (by omega)]
        omega
section R1
variable {g : GD} {pm : Nat → Int32} {pe : Nat → Nat} {σ ρ : ST}
theorem act (hw : WG g) (hc : GC g pm pe σ) (hm : GM g pm ρ) (x : Int32) : (∃ a, a < 8 ∧ th g a = 1 ∧ x = nI a ∧ C_isActor σ x = some 1 ∧ M_isActor ρ x = some 1) ∨ (C_isActor σ x = some 0 ∧ M_isActor ρ x = some 0) := by
  unfold C_isActor M_isActor
  rcases rng x 0 7 (by decide) (by decide) with ⟨a, -, ha, rfl⟩ | hout
  · rw [show C_isWithin (nI a) 0 7 = some 1 from w_in (lo := 0) (hi := 7) (by omega) (by omega) (by decide)]
    simp only [Option.bind_some]
    have h8 : inb (nI a) 8 := nb (by omega) (by decide)
    have h9 : ¬ 8 ≤ nI a := by rw [show (8 : Int32) = nI 8 from rfl, n_le (by omega) (by omega)]; omega
    rw [if_neg (by decide), if_pos h8, if_neg (nn0 (by omega)), if_neg h9, if_pos h8, nx (by omega), (hc.2.1 a (by omega)).1, (hm.2.1 a (by omega)).1]
    have ht := (hw.2.1 a (by omega)).1
    by_cases h1 : th g a = 1
    · left
      refine ⟨a, by omega, h1, rfl, ?_, ?_⟩ <;> rw [h1] <;> rfl
    · right
      have h0 : th g a = 0 := by omega
      constructor <;> rw [h0] <;> rfl
  · right
    rw [w_out (lo := 0) (hi := 7) hout]
    refine ⟨by simp, ?_⟩
    rcases hout with h | h
    · rw [if_pos (show x < 0 from h)]
    · by_cases h0 : x < 0
      · rw [if_pos h0]
      · rw [if_neg h0, if_pos]
        rw [Int32.le_iff_toInt_le]
        have := Int32.lt_iff_toInt_lt.mp h
        rw [nI_toInt (by omega)] at this
        have h8 : (8 : Int32).toInt = 8 := rfl
        omega
theorem edg (hw : WG g) (hc : GC g pm pe σ) (hm : GM g pm ρ) (x : Int32) : (∃ e, e < ne g ∧ x = nI e ∧ C_isEdge σ x = some 1 ∧ ¬ x < 0 ∧ x < gi ρ 0 0 8) ∨ (C_isEdge σ x = some 0 ∧ (x < 0 ∨ (¬ x < 0 ∧ ¬ x < gi ρ 0 0 8))) := by
  unfold C_isEdge
  have h12 := hw.1
  rw [hc.1, hm.1]
  rcases pk_ix x (n := ne g) (by omega) with h | h | ⟨e, he, rfl⟩
  · right
    rw [eg_out (by omega) (Or.inl h)]
    exact ⟨by simp [isb], Or.inl h⟩
  · right
    rw [eg_out (by omega) (Or.inr h)]
    refine ⟨by simp [isb], ?_⟩
    by_cases h0 : x < 0
    · exact Or.inl h0
    · exact Or.inr ⟨h0, Int32.not_lt.mpr h⟩
  · left
    rw [eg_in he (by omega)]
    refine ⟨e, he, rfl, by simp [isb], nn0 (by omega), ?_⟩
    rw [n_lt (by omega) (by omega)]
    exact he
end R1
theorem op_edge {σ ρ : ST} (hR : Rel σ ρ) (x1 x2 x3 x4 x5 : Int32) : ∃ r σ' ρ', C_edge σ x1 x2 x3 x4 x5 = some (r, σ') ∧ M_edge ρ x1 x2 x3 x4 x5 = some (r, ρ') ∧ Rel σ' ρ' := by
  obtain ⟨g, pm, pe, hw, hc, hm, hs⟩ := id hR
  have h12 := hw.1
  have h10 : ¬ (1 : Int32) = 0 := by decide
  unfold C_edge M_edge
  rcases act hw hc hm x1 with ⟨a, ha, ta, e1, c1, m1⟩ | ⟨c1, m1⟩
  rotate_left
  · rw [c1, m1]
    exact ⟨-1, σ, ρ, by simp, by simp, hR⟩
  rw [c1, m1]
  rcases act hw hc hm x2 with ⟨b, hb, tb, e2, c2, m2⟩ | ⟨c2, m2⟩
  rotate_left
  · rw [c2, m2]
    exact ⟨-1, σ, ρ, by simp, by simp, hR⟩
  rw [c2, m2]
  simp only [Option.bind_some, if_neg h10]
  rcases rng x3 1 6 (by decide) (by decide) with ⟨i, hi1, hi6, e3⟩ | hout
  rotate_left
  · rw [w_out (lo := 1) (hi := 6) hout]
    refine ⟨-1, σ, ρ, by simp, ?_, hR⟩
    rcases hout with h | h
    · rw [if_pos (show x3 < 1 from h)]
    · by_cases h0 : x3 < 1
      · rw [if_pos h0]
      · rw [if_neg h0, if_pos (show 6 < x3 from h)]
  rw [show C_isWithin x3 1 6 = some 1 from by rw [e3]; exact w_in (lo := 1) (hi := 6) hi1 hi6 (by decide)]
  rw [if_neg (show ¬ x3 < 1 by rw [e3, n1, n_lt (by omega) (by omega)]; omega), if_neg (show ¬ 6 < x3 by rw [e3, show (6 : Int32) = nI 6 from rfl, n_lt (by omega) (by omega)]; omega)]
  simp only [Option.bind_some, if_neg h10]
  rcases rng x4 1 6 (by decide) (by decide) with ⟨o, ho1, ho6, e4⟩ | hout
  rotate_left
  · rw [w_out (lo := 1) (hi := 6) hout]
    refine ⟨-1, σ, ρ, by simp, ?_, hR⟩
    rcases hout with h | h
    · rw [if_pos (show x4 < 1 from h)]
    · by_cases h0 : x4 < 1
      · rw [if_pos h0]
      · rw [if_neg h0, if_pos (show 6 < x4 from h)]
  rw [show C_isWithin x4 1 6 = some 1 from by rw [e4]; exact w_in (lo := 1) (hi := 6) ho1 ho6 (by decide)]
  rw [if_neg (show ¬ x4 < 1 by rw [e4, n1, n_lt (by omega) (by omega)]; omega), if_neg (show ¬ 6 < x4 by rw [e4, show (6 : Int32) = nI 6 from rfl, n_lt (by omega) (by omega)]; omega)]
  simp only [Option.bind_some, if_neg h10]
  rcases rng x5 0 12 (by decide) (by decide) with ⟨d, -, hd, e5⟩ | hout
  rotate_left
  · rw [w_out (lo := 0) (hi := 12) hout]
    refine ⟨-1, σ, ρ, by simp, ?_, hR⟩
    rcases hout with h | h
    · rw [if_pos (show x5 < 0 from h)]
    · by_cases h0 : x5 < 0
      · rw [if_pos h0]
      · rw [if_neg h0, if_neg (show ¬ x5 ≤ 12 from Int32.not_le.mpr h)]
  rw [show C_isWithin x5 0 12 = some 1 from by rw [e5]; exact w_in (lo := 0) (hi := 12) (by omega) hd (by decide)]
  rw [if_neg (show ¬ x5 < 0 by rw [e5]; exact nn0 (by omega)), if_pos (show x5 ≤ 12 by rw [e5, show (12 : Int32) = nI 12 from rfl, n_le (by omega) (by omega)]; omega)]
  simp only [Option.bind_some, if_neg h10]
  rw [hc.1, hm.1]
  by_cases hf : ne g = 12
  · rw [if_neg (show ¬ nI (ne g) < 12 by rw [show (12 : Int32) = nI 12 from rfl, n_lt (by omega) (by omega)]; omega), if_pos (show nI (ne g) = 12 by rw [hf]; rfl)]
    exact ⟨-2, σ, ρ, rfl, rfl, hR⟩
  · rw [if_pos (show nI (ne g) < 12 by rw [show (12 : Int32) = nI 12 from rfl, n_lt (by omega) (by omega)]; omega), if_neg (show ¬ nI (ne g) = 12 by rw [show (12 : Int32) = nI 12 from rfl, n_eq (by omega) (by omega)]; omega)]
    rw [if_pos (nb (by omega) (by decide)), if_pos (nb (by omega) (by decide)), nx (by omega)]
    obtain ⟨q1, q2⟩ := hc.2.2.1 (ne g) (by omega)
    rw [q1, nx (by omega), if_pos q2, n_add1]
    refine ⟨_, _, _, rfl, rfl, ?_⟩
    refine ⟨upG (upG (upG (upG (upG (upG g 2 (ne g) a) 3 (ne g) b) 4 (ne g) i) 5 (ne g) o) 6 (ne g) d) 7 0 (ne g + 1), pm, pe, ?_, ?_, ?_, Or.inl ⟨by simp [gi_su], by simp [gi_su]⟩⟩
    · refine ⟨?_, fun c hcc => ?_, fun e he => ?_⟩
      · show ne g + 1 ≤ 12
        omega
      · simpa [th, kd, upG] using hw.2.1 c hcc
      · by_cases hen : e = ne g
        · subst hen
          simp [fr, tt, th, rin, rout, dl, upG]
          refine ⟨ha, hb, ta, tb, hi1, hi6, ho1, ho6, hd⟩
        · have he2 : e < ne g := by simp [ne, upG] at he hen ⊢; omega
          have := hw.2.2 e he2
          simp [fr, tt, th, rin, rout, dl, upG] at this ⊢
          simp [show ¬ e = g 7 0 from hen]
          exact this
    · refine ⟨by simp [gi_su, ne, upG], fun c hcc => ?_, fun e he => ?_, hc.2.2.2.1, fun e he => ?_⟩
      · have := hc.2.1 c hcc
        simp [gi_su, th, kd, upG] at this ⊢
        exact this
      · simp [gi_su]
        exact hc.2.2.1 e he
      · by_cases hen : e = ne g
        · subst hen
          simp [gi_su, fr, tt, th, rin, rout, dl, upG]
          exact ⟨e1, e2, e3, e4, e5⟩
        · have he2 : e < ne g := by simp [ne, upG] at he hen ⊢; omega
          have hpe : ¬ pe e = pe (ne g) := fun h => hen (hc.2.2.2.1 e (ne g) (by omega) (by omega) h)
          have := hc.2.2.2.2 e he2
          simp [fr, tt, th, rin, rout, dl, upG, gi_su, hpe] at this ⊢
          simp [show ¬ e = g 7 0 from hen]
          exact this
    · refine ⟨by simp [gi_su, ne, upG], fun c hcc => ?_, fun e he => ?_⟩
      · have := hm.2.1 c hcc
        simp [gi_su, th, kd, upG] at this ⊢
        exact this
      · by_cases hen : e = ne g
        · subst hen
          simp [gi_su, fr, tt, th, rin, rout, dl, upG]
          exact ⟨e1, e2, e3, e4, e5⟩
        · have he2 : e < ne g := by simp [ne, upG] at he hen ⊢; omega
          have := hm.2.2 e he2
          simp [fr, tt, th, rin, rout, dl, upG, gi_su] at this ⊢
          simp [show ¬ e = g 7 0 from hen]
          exact this
