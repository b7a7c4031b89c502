/-! PURE: the graph, and how both states hold it -/
abbrev GD : Type := Nat → Nat → Nat
abbrev th (g : GD) (a : Nat) : Nat := g 0 a
abbrev kd (g : GD) (a : Nat) : Nat := g 1 a
abbrev fr (g : GD) (e : Nat) : Nat := g 2 e
abbrev tt (g : GD) (e : Nat) : Nat := g 3 e
abbrev rin (g : GD) (e : Nat) : Nat := g 4 e
abbrev rout (g : GD) (e : Nat) : Nat := g 5 e
abbrev dl (g : GD) (e : Nat) : Nat := g 6 e
abbrev ne (g : GD) : Nat := g 7 0
def WG (g : GD) : Prop := ne g ≤ 12 ∧ (∀ a, a < 8 → th g a ≤ 1 ∧ kd g a ≤ 3) ∧ ∀ e, e < ne g → fr g e < 8 ∧ tt g e < 8 ∧ th g (fr g e) = 1 ∧ th g (tt g e) = 1 ∧ 1 ≤ rin g e ∧ rin g e ≤ 6 ∧ 1 ≤ rout g e ∧ rout g e ≤ 6 ∧ dl g e ≤ 12
/-- the class's state holds the graph; pe: which object is at which place -/
def GC (g : GD) (pm : Nat → Int32) (pe : Nat → Nat) (σ : ST) : Prop :=
  gi σ 0 0 5 = nI (ne g) ∧ (∀ a, a < 8 → gi σ 1 a 0 = nI (th g a) ∧ gi σ 1 a 1 = nI (kd g a) ∧ gi σ 1 a 2 = pm a) ∧ (∀ e, e < 12 → gi σ 5 0 e = nI (pe e) ∧ pe e < 12) ∧ (∀ e e', e < 12 → e' < 12 → pe e = pe e' → e = e') ∧
  ∀ e, e < ne g → gi σ 2 (pe e) 1 = nI (fr g e) ∧ gi σ 2 (pe e) 2 = nI (tt g e) ∧ gi σ 2 (pe e) 3 = nI (rin g e) ∧ gi σ 2 (pe e) 4 = nI (rout g e) ∧ gi σ 2 (pe e) 5 = nI (dl g e)
/-- the reference's state holds the graph -/
def GM (g : GD) (pm : Nat → Int32) (ρ : ST) : Prop :=
  gi ρ 0 0 8 = nI (ne g) ∧ (∀ a, a < 8 → gi ρ 1 0 a = nI (th g a) ∧ gi ρ 2 0 a = nI (kd g a) ∧ gi ρ 3 0 a = pm a) ∧
  ∀ e, e < ne g → gi ρ 4 0 e = nI (fr g e) ∧ gi ρ 5 0 e = nI (tt g e) ∧ gi ρ 6 0 e = nI (rin g e) ∧ gi ρ 7 0 e = nI (rout g e) ∧ gi ρ 8 0 e = nI (dl g e)
/-- what the last solve made: sd 0 a the repetitions, sd 1 i the schedule, sd 2 0 its length, sd 3 e the peaks -/
abbrev rp (sd : GD) (a : Nat) : Nat := sd 0 a
abbrev od (sd : GD) (i : Nat) : Nat := sd 1 i
abbrev ln (sd : GD) : Nat := sd 2 0
abbrev pk (sd : GD) (e : Nat) : Nat := sd 3 e
/-- how often a is among the first i of the schedule -/
def cnt (sd : GD) (a : Nat) : Nat → Nat
  | 0 => 0
  | i + 1 => cnt sd a i + if od sd i = a then 1 else 0
/-- tokens on e behind i firings -/
def ont (g sd : GD) (e i : Nat) : Nat := dl g e + rin g e * cnt sd (fr g e) i - rout g e * cnt sd (tt g e) i
/-- the schedule is one: every actor as often as its repetitions, each ready when it fires, the room of the rings holds -/
def VS (g sd : GD) : Prop :=
  ln sd ≤ 64 ∧ (∀ i, i < ln sd → od sd i < 8 ∧ th g (od sd i) = 1) ∧ (∀ a, a < 8 → th g a = 1 → cnt sd a (ln sd) = rp sd a) ∧ (∀ e, e < ne g → rin g e * rp sd (fr g e) = rout g e * rp sd (tt g e)) ∧
  (∀ e i, e < ne g → i < ln sd → od sd i = tt g e → rout g e ≤ ont g sd e i) ∧ (∀ e i, e < ne g → i ≤ ln sd → rout g e * cnt sd (tt g e) i ≤ dl g e + rin g e * cnt sd (fr g e) i ∧ ont g sd e i ≤ 204) ∧ ∀ e, e < ne g → pk sd e < 1000
/-- the run: ct e tokens on e, tk e i the tokens, la latest, fx former X, sx sum of X, fi firings -/
def SC (g : GD) (pe : Nat → Nat) (sd : GD) (ct : Nat → Nat) (tk : Nat → Nat → Int32) (la fx sx : Nat → Int32) (fi : Int32) (σ : ST) : Prop :=
  (∀ a, a < 8 → th g a = 1 → gi σ 1 a 5 = nI (rp sd a) ∧ gi σ 1 a 9 = la a ∧ gi σ 1 a 7 = fx a ∧ gi σ 1 a 8 = sx a) ∧ gi σ 0 0 6 = nI (ln sd) ∧ (∀ i, i < ln sd → gi σ 8 0 i = nI (od sd i)) ∧ gi σ 0 0 7 = fi ∧
  ∀ e, e < ne g → gi σ 2 (pe e) 8 = nI (pk sd e) ∧ gi σ 2 (pe e) 7 = nI (ct e) ∧ ∃ st : Nat, st < 256 ∧ gi σ 2 (pe e) 6 = nI st ∧ ∀ i, i < ct e → gi σ 3 (pe e) ((st + i) % 256) = tk e i
def SM (g : GD) (sd : GD) (ct : Nat → Nat) (tk : Nat → Nat → Int32) (la fx sx : Nat → Int32) (fi : Int32) (ρ : ST) : Prop :=
  (∀ a, a < 8 → th g a = 1 → gi ρ 14 0 a = nI (rp sd a) ∧ gi ρ 23 0 a = la a ∧ gi ρ 24 0 a = if kd g a = 2 then sx a else fx a) ∧ gi ρ 0 0 18 = nI (ln sd) ∧ (∀ i, i < ln sd → gi ρ 16 0 i = nI (od sd i)) ∧ gi ρ 0 0 19 = fi ∧
  ∀ e, e < ne g → gi ρ 17 0 e = nI (pk sd e) ∧ gi ρ 22 0 e = nI (ct e) ∧ ∀ i, i < ct e → gi ρ 21 0 (e * 400 + i) = tk e i
/-- both solved, with the same -/
def Sol (g : GD) (pe : Nat → Nat) (σ ρ : ST) : Prop := gi σ 0 0 8 = 1 ∧ gi ρ 0 0 9 = 1 ∧ ∃ (sd : GD) (tk : Nat → Nat → Int32) (la fx sx : Nat → Int32) (fi : Int32), VS g sd ∧ ((∀ a, a < 8 → th g a = 1 → 1 ≤ rp sd a) ∧ ∃ a, a < 8 ∧ th g a = 1) ∧ SC g pe sd (dl g) tk la fx sx fi σ ∧ SM g sd (dl g) tk la fx sx fi ρ
def Rel (σ ρ : ST) : Prop := ∃ (g : GD) (pm : Nat → Int32) (pe : Nat → Nat), WG g ∧ GC g pm pe σ ∧ GM g pm ρ ∧ ((gi σ 0 0 8 = 0 ∧ gi ρ 0 0 9 = 0) ∨ Sol g pe σ ρ)
theorem rel_init : Rel zC zM := by
  refine ⟨fun _ _ => 0, fun _ => 0, fun e => e, ⟨Nat.zero_le _, fun a _ => ⟨Nat.zero_le _, Nat.zero_le _⟩, fun e h => absurd h (Nat.not_lt_zero _)⟩, ⟨rfl, fun a _ => ⟨rfl, rfl, rfl⟩, fun e he => ⟨rfl, he⟩, fun e e' _ _ h => h, fun e h => absurd h (Nat.not_lt_zero _)⟩, ⟨rfl, fun a _ => ⟨rfl, rfl, rfl⟩, fun e h => absurd h (Nat.not_lt_zero _)⟩, Or.inl ⟨rfl, rfl⟩⟩
/-- a state reads alike at the places of the graph -/
theorem gi0 {f : ST} {K i k K' i' k' : Nat} {v : Int32} (h : ¬ (K' = K ∧ i' = i ∧ k' = k)) : gi (su f K i k v) K' i' k' = gi f K' i' k' := by rw [gi_su, if_neg h]
/-- actor -/
def upG (g : GD) (K i v : Nat) : GD := fun K' i' => if K' = K ∧ i' = i then v else g K' i'
theorem op_actor {σ ρ : ST} (hR : Rel σ ρ) (x1 x2 x3 : Int32) : ∃ r σ' ρ', C_actor σ x1 x2 x3 = some (r, σ') ∧ M_actor ρ x1 x2 x3 = some (r, ρ') ∧ Rel σ' ρ' := by
  unfold C_actor M_actor
  rcases rng x1 0 7 (by decide) (by decide) with ⟨a, -, ha, rfl⟩ | hout
  · rw [show C_isWithin (nI a) 0 7 = some 1 from w_in (lo := 0) (hi := 7) (by omega) (by omega) (by decide)]
    rw [if_neg (show ¬ nI a < 0 by rw [show (0 : Int32) = nI 0 from rfl, n_lt (by omega) (by omega)]; omega), if_neg (show ¬ 7 < nI a by rw [show (7 : Int32) = nI 7 from rfl, n_lt (by omega) (by omega)]; omega)]
    rcases rng x2 0 3 (by decide) (by decide) with ⟨k, -, hk, rfl⟩ | hout
    · rw [if_neg (show ¬ nI k < 0 by rw [show (0 : Int32) = nI 0 from rfl, n_lt (by omega) (by omega)]; omega), if_pos (show nI k ≤ 3 by rw [show (3 : Int32) = nI 3 from rfl, n_le (by omega) (by omega)]; omega)]
      simp only [Option.bind_some]
      rw [if_neg (by decide), show C_isWithin (nI k) 0 3 = some 1 from w_in (lo := 0) (hi := 3) (by omega) (by omega) (by decide)]
      simp only [Option.bind_some]
      rw [if_neg (by decide), if_pos (nb (by omega) (by decide)), if_pos (nb (by omega) (by decide)), nx (by omega)]
      refine ⟨0, _, _, rfl, rfl, ?_⟩
      obtain ⟨g, pm, pe, hw, hc, hm, -⟩ := hR
      refine ⟨upG (upG g 0 a 1) 1 a k, fun b => if b = a then x3 else pm b, pe, ?_, ?_, ?_, Or.inl ⟨by simp [gi_su], by simp [gi_su]⟩⟩
      · refine ⟨hw.1, fun b hb => ?_, fun e he => ?_⟩
        · have := hw.2.1 b hb
          by_cases hba : b = a
          · subst hba
            simp [th, kd, upG]
            omega
          · simp [th, kd, upG, hba]
            exact this
        · obtain ⟨q1, q2, q3, q4, q5⟩ := hw.2.2 e he
          refine ⟨q1, q2, ?_, ?_, q5⟩
          · simp only [th, upG, fr] at q3 ⊢
            simp [q3]
          · simp only [th, upG, tt] at q4 ⊢
            simp [q4]
      · refine ⟨?_, fun b hb => ?_, fun e he => ?_, hc.2.2.2.1, fun e he => ?_⟩
        · simp [gi_su, hc.1, upG]
        · obtain ⟨q1, q2, q3⟩ := hc.2.1 b hb
          by_cases hba : b = a
          · subst hba
            simp [gi_su, th, kd, upG]
            rfl
          · simp [gi_su, th, kd, upG, hba] at q1 q2 q3 ⊢
            exact ⟨q1, q2, q3⟩
        · simp [gi_su]
          exact hc.2.2.1 e he
        · simp [gi_su, upG]
          exact hc.2.2.2.2 e he
      · refine ⟨?_, fun b hb => ?_, fun e he => ?_⟩
        · simp [gi_su, hm.1, upG]
        · obtain ⟨q1, q2, q3⟩ := hm.2.1 b hb
          by_cases hba : b = a
          · subst hba
            simp [gi_su, th, kd, upG]
            rfl
          · simp [gi_su, th, kd, upG, hba] at q1 q2 q3 ⊢
            exact ⟨q1, q2, q3⟩
        · simp [gi_su, upG]
          exact hm.2.2 e he
    · rw [w_out (lo := 0) (hi := 3) hout]
      simp only [Option.bind_some]
      rw [if_neg (by decide)]
      refine ⟨-1, σ, ρ, by simp, ?_, hR⟩
      rcases hout with h | h
      · rw [if_pos (show x2 < 0 from h)]
      · by_cases h0 : x2 < 0
        · rw [if_pos h0]
        · rw [if_neg h0, if_neg (show ¬ x2 ≤ 3 from Int32.not_le.mpr h)]
  · rw [w_out (lo := 0) (hi := 7) hout]
    simp only [Option.bind_some]
    refine ⟨-1, σ, ρ, by simp, ?_, hR⟩
    rcases hout with h | h
    · rw [if_pos (show x1 < 0 from h)]
    · by_cases h0 : x1 < 0
      · rw [if_pos h0]
      · rw [if_neg h0, if_pos (show 7 < x1 from h)]
