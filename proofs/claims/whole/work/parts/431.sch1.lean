/-! PURE: who may fire, and who is chosen -/
def rdy (g : GD) (R fd on : Nat → Nat) (a : Nat) : Prop := th g a = 1 ∧ fd a < R a ∧ ∀ e, e < ne g → tt g e = a → rout g e ≤ on e
def KC (g : GD) (pe R fd on : Nat → Nat) (σ : ST) : Prop := (∀ a, a < 8 → gi σ 1 a 5 = nI (R a) ∧ gi σ 1 a 6 = nI (fd a)) ∧ ∀ e, e < ne g → gi σ 2 (pe e) 7 = nI (on e)
def KM (g : GD) (R fd on : Nat → Nat) (ρ : ST) : Prop := (∀ a, a < 8 → th g a = 1 → gi ρ 14 0 a = nI (R a)) ∧ (∀ a, a < 8 → gi ρ 15 0 a = nI (fd a)) ∧ ∀ e, e < ne g → gi ρ 18 0 e = nI (on e)
def KB (g : GD) (R fd on : Nat → Nat) : Prop := (∀ a, a < 8 → R a ≤ 64 ∧ fd a ≤ 64) ∧ ∀ e, e < ne g → on e ≤ 300
def gwl (g : GD) (a : Nat) : Nat → Int32
  | 0 => 0
  | e + 1 => if fr g e = a then (if tt g e = a then (gwl g a e + nI (rin g e)) - nI (rout g e) else gwl g a e + nI (rin g e)) else (if tt g e = a then gwl g a e - nI (rout g e) else gwl g a e)
section SH
variable {g : GD} {pm : Nat → Int32} {pe R fd on : Nat → Nat} {σ ρ : ST}
theorem C_due_eq (hw : WG g) (hc : GC g pm pe σ) (hk : KC g pe R fd on σ) (hb : KB g R fd on) {a : Nat} (ha : a < 8) : ((th g a = 1 ∧ fd a < R a) ∧ C_Actor_isDue σ a = some 1) ∨ (¬ (th g a = 1 ∧ fd a < R a) ∧ C_Actor_isDue σ a = some 0) := by
  have w1 := (hw.2.1 a ha).1
  obtain ⟨k1, k2⟩ := hk.1 a ha
  obtain ⟨b1, b2⟩ := hb.1 a ha
  unfold C_Actor_isDue
  rw [(hc.2.1 a ha).1, k1, k2]
  by_cases h : th g a = 1
  · rw [if_neg (by rw [h]; decide)]
    by_cases h2 : fd a < R a
    · rw [if_neg (by rw [n_le (by omega) (by omega)]; omega)]
      exact Or.inl ⟨⟨h, h2⟩, rfl⟩
    · rw [if_pos (by rw [n_le (by omega) (by omega)]; omega)]
      exact Or.inr ⟨fun q => h2 q.2, rfl⟩
  · rw [if_pos (by rw [show th g a = 0 by omega]; rfl)]
    exact Or.inr ⟨fun q => h q.1, rfl⟩
theorem C_ready_eq (hw : WG g) (hc : GC g pm pe σ) (hk : KC g pe R fd on σ) (hb : KB g R fd on) {a : Nat} (ha : a < 8) : ((∀ e, e < ne g → tt g e = a → rout g e ≤ on e) ∧ C_isReady σ (nI a) = some 1) ∨ ((¬ ∀ e, e < ne g → tt g e = a → rout g e ≤ on e) ∧ C_isReady σ (nI a) = some 0) := by
  have h12 := hw.1
  unfold C_isReady
  obtain ⟨r, hr, hp⟩ : ∃ r : Int32 ⊕ Int32, lp (fun s1 : Int32 =>
  if (gi σ 0 0 5) ≤ s1 then
  (some (.inr (.inl s1))) else
  (if inb s1 12 then 
  (if ix (gi σ 5 0 (ix s1)) < 12 then 
  (if (gi σ 2 (ix (gi σ 5 0 (ix s1))) 2) = nI a then
  (if (gi σ 2 (ix (gi σ 5 0 (ix s1))) 4) ≤ (gi σ 2 (ix (gi σ 5 0 (ix s1))) 7) then
  (some (.inl (s1 + 1))) else
  (some (.inr (.inr 0)))) else
  (some (.inl (s1 + 1)))) else none) else none)) 1000 0 = some r ∧ (match r with
    | .inl _ => ∀ e, e < ne g → tt g e = a → rout g e ≤ on e
    | .inr v => v = 0 ∧ ¬ ∀ e, e < ne g → tt g e = a → rout g e ≤ on e) := by
    refine lp_cnt (fun j (s : Int32) => s = nI j ∧ ∀ e, e < j → tt g e = a → rout g e ≤ on e) (ne g) _ ?_ ?_ 1000 0 0 (by omega) (by omega) ⟨rfl, fun e h => by omega⟩
    · intro j s hj hI
      obtain ⟨e1, e2⟩ := hI
      subst e1
      obtain ⟨q1, q2⟩ := hc.2.2.1 j (by omega)
      obtain ⟨c1, c2, c3, c4, -⟩ := hc.2.2.2.2 j hj
      obtain ⟨w1, w2, w3, w4, w5, w6, w7, w8, -⟩ := hw.2.2 j hj
      have b1 := hb.2 j hj
      rw [hc.1, if_neg (by rw [n_le (by omega) (by omega)]; omega), if_pos (nb (by omega) (by decide)), nx (by omega), q1, nx (by omega), if_pos q2, c2, c4, hk.2 j hj, n_add1]
      by_cases ht : tt g j = a
      · rw [if_pos (by rw [ht])]
        by_cases ho : rout g j ≤ on j
        · left
          rw [if_pos (by rw [n_le (by omega) (by omega)]; exact ho)]
          refine ⟨_, rfl, rfl, fun e he hte => ?_⟩
          by_cases hej : e = j
          · subst hej; exact ho
          · exact e2 e (by omega) hte
        · right
          rw [if_neg (by rw [n_le (by omega) (by omega)]; exact ho)]
          exact ⟨_, rfl, rfl, fun q => ho (q j hj ht)⟩
      · left
        rw [if_neg (by rw [n_eq (by omega) (by omega)]; exact ht)]
        refine ⟨_, rfl, rfl, fun e he hte => ?_⟩
        by_cases hej : e = j
        · subst hej; exact absurd hte ht
        · exact e2 e (by omega) hte
    · intro s hI
      obtain ⟨e1, e2⟩ := hI
      subst e1
      rw [hc.1, if_pos (by rw [n_le (by omega) (by omega)]; omega)]
      exact ⟨_, rfl, e2⟩
  rw [hr]
  rcases r with s | v
  · exact Or.inl ⟨hp, rfl⟩
  · obtain ⟨p1, p2⟩ := hp
    subst p1
    exact Or.inr ⟨p2, rfl⟩
theorem C_can_eq (hw : WG g) (hc : GC g pm pe σ) (hk : KC g pe R fd on σ) (hb : KB g R fd on) {a : Nat} (ha : a < 8) : (rdy g R fd on a ∧ C_canFire σ (nI a) = some 1) ∨ (¬ rdy g R fd on a ∧ C_canFire σ (nI a) = some 0) := by
  unfold C_canFire
  rw [if_pos (nb ha (by decide)), nx (by omega)]
  rcases C_due_eq hw hc hk hb ha with ⟨d1, d2⟩ | ⟨d1, d2⟩
  · rw [d2]
    rcases C_ready_eq hw hc hk hb ha with ⟨r1, r2⟩ | ⟨r1, r2⟩
    · rw [r2]
      exact Or.inl ⟨⟨d1.1, d1.2, r1⟩, rfl⟩
    · rw [r2]
      exact Or.inr ⟨fun q => r1 q.2.2, rfl⟩
  · rw [d2]
    exact Or.inr ⟨fun q => d1 ⟨q.1, q.2.1⟩, rfl⟩
theorem M_ready_eq (hw : WG g) (hm : GM g pm ρ) (hk : KM g R fd on ρ) (hb : KB g R fd on) {a : Nat} (ha : a < 8) : (rdy g R fd on a ∧ M_ready ρ (nI a) = some 1) ∨ (¬ rdy g R fd on a ∧ M_ready ρ (nI a) = some 0) := by
  have h12 := hw.1
  have w1 := (hw.2.1 a ha).1
  obtain ⟨b1, b2⟩ := hb.1 a ha
  unfold M_ready
  rw [if_pos (nb ha (by decide)), nx (by omega), (hm.2.1 a ha).1]
  by_cases h : th g a = 1
  · rw [if_neg (by rw [h]; decide), hk.1 a ha h, hk.2.1 a ha]
    by_cases h2 : fd a < R a
    · rw [if_pos (by rw [n_lt (by omega) (by omega)]; exact h2)]
      obtain ⟨r, hr, hp⟩ : ∃ r : Int32 ⊕ Int32, lp (fun s1 : Int32 =>
  if (gi ρ 0 0 8) ≤ s1 then
  (some (.inr (.inl s1))) else
  (if inb s1 13 then 
  (if (gi ρ 5 0 (ix s1)) = nI a then
  (if inb s1 12 then 
  (if (gi ρ 7 0 (ix s1)) ≤ (gi ρ 18 0 (ix s1)) then
  (some (.inl (s1 + 1))) else
  (some (.inr (.inr 0)))) else none) else
  (some (.inl (s1 + 1)))) else none)) 1000 0 = some r ∧ (match r with
    | .inl _ => ∀ e, e < ne g → tt g e = a → rout g e ≤ on e
    | .inr v => v = 0 ∧ ¬ ∀ e, e < ne g → tt g e = a → rout g e ≤ on e) := by
        refine lp_cnt (fun j (s : Int32) => s = nI j ∧ ∀ e, e < j → tt g e = a → rout g e ≤ on e) (ne g) _ ?_ ?_ 1000 0 0 (by omega) (by omega) ⟨rfl, fun e h => by omega⟩
        · intro j s hj hI
          obtain ⟨e1, e2⟩ := hI
          subst e1
          obtain ⟨c1, c2, c3, c4, -⟩ := hm.2.2 j hj
          obtain ⟨w1, w2, w3, w4, w5, w6, w7, w8, -⟩ := hw.2.2 j hj
          have b1 := hb.2 j hj
          rw [hm.1, if_neg (by rw [n_le (by omega) (by omega)]; omega), if_pos (nb (by omega) (by decide)), nx (by omega), c2, c4, hk.2.2 j hj, n_add1]
          by_cases ht : tt g j = a
          · rw [if_pos (by rw [ht]), if_pos (nb (by omega) (by decide))]
            by_cases ho : rout g j ≤ on j
            · left
              rw [if_pos (by rw [n_le (by omega) (by omega)]; exact ho)]
              refine ⟨_, rfl, rfl, fun e he hte => ?_⟩
              by_cases hej : e = j
              · subst hej; exact ho
              · exact e2 e (by omega) hte
            · right
              rw [if_neg (by rw [n_le (by omega) (by omega)]; exact ho)]
              exact ⟨_, rfl, rfl, fun q => ho (q j hj ht)⟩
          · left
            rw [if_neg (by rw [n_eq (by omega) (by omega)]; exact ht)]
            refine ⟨_, rfl, rfl, fun e he hte => ?_⟩
            by_cases hej : e = j
            · subst hej; exact absurd hte ht
            · exact e2 e (by omega) hte
        · intro s hI
          obtain ⟨e1, e2⟩ := hI
          subst e1
          rw [hm.1, if_pos (by rw [n_le (by omega) (by omega)]; omega)]
          exact ⟨_, rfl, e2⟩
      rw [hr]
      rcases r with s | v
      · exact Or.inl ⟨⟨h, h2, hp⟩, rfl⟩
      · obtain ⟨p1, p2⟩ := hp
        subst p1
        exact Or.inr ⟨fun q => p2 q.2.2, rfl⟩
    · rw [if_neg (by rw [n_lt (by omega) (by omega)]; exact h2)]
      exact Or.inr ⟨fun q => h2 q.2.1, rfl⟩
  · rw [if_pos (by rw [show th g a = 0 by omega]; rfl)]
    exact Or.inr ⟨fun q => h q.1, rfl⟩
theorem C_won_eq (hw : WG g) (hc : GC g pm pe σ) {a : Nat} (ha : a < 8) : C_tokensWonBy σ (nI a) = some (gwl g a (ne g)) := by
  have h12 := hw.1
  unfold C_tokensWonBy
  rw [show lp (fun s1 : Int32 × Int32 =>
  if (gi σ 0 0 5) ≤ s1.2 then
  (some (.inr ((s1.1, s1.2)))) else
  (if inb s1.2 12 then 
  (if ix (gi σ 5 0 (ix s1.2)) < 12 then 
  (if (gi σ 2 (ix (gi σ 5 0 (ix s1.2))) 1) = nI a then
  (if (gi σ 2 (ix (gi σ 5 0 (ix s1.2))) 2) = nI a then
  (some (.inl (((s1.1 + (gi σ 2 (ix (gi σ 5 0 (ix s1.2))) 3)) - (gi σ 2 (ix (gi σ 5 0 (ix s1.2))) 4), s1.2 + 1)))) else
  (some (.inl ((s1.1 + (gi σ 2 (ix (gi σ 5 0 (ix s1.2))) 3), s1.2 + 1))))) else
  (if (gi σ 2 (ix (gi σ 5 0 (ix s1.2))) 2) = nI a then
  (some (.inl ((s1.1 - (gi σ 2 (ix (gi σ 5 0 (ix s1.2))) 4), s1.2 + 1)))) else
  (some (.inl ((s1.1, s1.2 + 1)))))) else none) else none)) 1000 ((0, 0)) = some (gwl g a (ne g), nI (ne g)) from ?_]
  · rfl
  · refine lp_for (fun i => (gwl g a i, nI i)) (ne g) (fun i hi => ?_) ?_ 1000 0 (by omega) (by omega)
    · dsimp only
      obtain ⟨q1, q2⟩ := hc.2.2.1 i (by omega)
      obtain ⟨c1, c2, c3, c4, -⟩ := hc.2.2.2.2 i hi
      obtain ⟨w1, w2, -⟩ := hw.2.2 i hi
      rw [hc.1, if_neg (by rw [n_le (by omega) (by omega)]; omega), if_pos (nb (by omega) (by decide)), nx (by omega), q1, nx (by omega), if_pos q2, c1, c2, c3, c4, n_add1]
      simp only [n_eq (show fr g i < 2147483648 by omega) (show a < 2147483648 by omega), n_eq (show tt g i < 2147483648 by omega) (show a < 2147483648 by omega)]
      conv => rhs; rw [gwl]
      by_cases h1 : fr g i = a
      · by_cases h2 : tt g i = a
        · rw [if_pos h1, if_pos h2, if_pos h1, if_pos h2]
        · rw [if_pos h1, if_neg h2, if_pos h1, if_neg h2]
      · by_cases h2 : tt g i = a
        · rw [if_neg h1, if_pos h2, if_neg h1, if_pos h2]
        · rw [if_neg h1, if_neg h2, if_neg h1, if_neg h2]
    · dsimp only
      rw [hc.1, if_pos (by rw [n_le (by omega) (by omega)]; omega)]
theorem M_growth_eq (hw : WG g) (hm : GM g pm ρ) {a : Nat} (ha : a < 8) : M_growth ρ (nI a) = some (gwl g a (ne g)) := by
  have h12 := hw.1
  unfold M_growth
  rw [show lp (fun s1 : Int32 × Int32 =>
  if (gi ρ 0 0 8) ≤ s1.2 then
  (some (.inr ((s1.1, s1.2)))) else
  (if inb s1.2 13 then 
  (if (gi ρ 4 0 (ix s1.2)) = nI a then
  (if (gi ρ 5 0 (ix s1.2)) = nI a then
  (some (.inl (((s1.1 + (gi ρ 6 0 (ix s1.2))) - (gi ρ 7 0 (ix s1.2)), s1.2 + 1)))) else
  (some (.inl ((s1.1 + (gi ρ 6 0 (ix s1.2)), s1.2 + 1))))) else
  (if (gi ρ 5 0 (ix s1.2)) = nI a then
  (some (.inl ((s1.1 - (gi ρ 7 0 (ix s1.2)), s1.2 + 1)))) else
  (some (.inl ((s1.1, s1.2 + 1)))))) else none)) 1000 ((0, 0)) = some (gwl g a (ne g), nI (ne g)) from ?_]
  · rfl
  · refine lp_for (fun i => (gwl g a i, nI i)) (ne g) (fun i hi => ?_) ?_ 1000 0 (by omega) (by omega)
    · dsimp only
      obtain ⟨c1, c2, c3, c4, -⟩ := hm.2.2 i hi
      obtain ⟨w1, w2, -⟩ := hw.2.2 i hi
      rw [hm.1, if_neg (by rw [n_le (by omega) (by omega)]; omega), if_pos (nb (by omega) (by decide)), nx (by omega), c1, c2, c3, c4, n_add1]
      simp only [n_eq (show fr g i < 2147483648 by omega) (show a < 2147483648 by omega), n_eq (show tt g i < 2147483648 by omega) (show a < 2147483648 by omega)]
      conv => rhs; rw [gwl]
      by_cases h1 : fr g i = a
      · by_cases h2 : tt g i = a
        · rw [if_pos h1, if_pos h2, if_pos h1, if_pos h2]
        · rw [if_pos h1, if_neg h2, if_pos h1, if_neg h2]
      · by_cases h2 : tt g i = a
        · rw [if_neg h1, if_pos h2, if_neg h1, if_pos h2]
        · rw [if_neg h1, if_neg h2, if_neg h1, if_neg h2]
    · dsimp only
      rw [hm.1, if_pos (by rw [n_le (by omega) (by omega)]; omega)]
end SH
