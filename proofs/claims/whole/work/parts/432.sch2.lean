/-! PURE: the choice -/
/-- c is the first ready one from l on, round; -1 if none -/
def FS (rd : Nat → Prop) (l : Nat) (c : Int32) : Prop := (c = -1 ∧ ∀ k, k < 8 → ¬ rd ((l + k) % 8)) ∨ ∃ k, k < 8 ∧ c = nI ((l + k) % 8) ∧ rd ((l + k) % 8) ∧ ∀ j, j < k → ¬ rd ((l + j) % 8)
theorem FS.uq {rd : Nat → Prop} {l : Nat} {c c' : Int32} (h : FS rd l c) (h' : FS rd l c') : c = c' := by
  rcases h with ⟨h1, h2⟩ | ⟨k, h1, h2, h3, h4⟩
  · rcases h' with ⟨g1, g2⟩ | ⟨k', g1, g2, g3, g4⟩
    · rw [h1, g1]
    · exact absurd g3 (h2 k' g1)
  · rcases h' with ⟨g1, g2⟩ | ⟨k', g1, g2, g3, g4⟩
    · exact absurd h3 (g2 k h1)
    · rcases Nat.lt_trichotomy k k' with q | q | q
      · exact absurd h3 (g4 k q)
      · subst q; rw [h2, g2]
      · exact absurd g3 (h4 k' q)
theorem FS.next {rd : Nat → Prop} {l : Nat} {c : Int32} (hl : l < 8) (h0 : ¬ rd l) (h : FS rd (l + 1) c) : FS rd l c := by
  rcases h with ⟨h1, h2⟩ | ⟨k, h1, h2, h3, h4⟩
  · refine Or.inl ⟨h1, fun k hk => ?_⟩
    by_cases e : k = 0
    · subst e
      rw [Nat.add_zero, Nat.mod_eq_of_lt hl]; exact h0
    · have := h2 (k - 1) (by omega)
      rw [show l + 1 + (k - 1) = l + k by omega] at this
      exact this
  · by_cases e : k = 7
    · subst e
      rw [show (l + 1 + 7) % 8 = l by omega] at h3
      exact absurd h3 h0
    · refine Or.inr ⟨k + 1, by omega, by rw [h2, show l + 1 + k = l + (k + 1) by omega], by rw [show l + (k + 1) = l + 1 + k by omega]; exact h3, fun j hj => ?_⟩
      by_cases e2 : j = 0
      · subst e2
        rw [Nat.add_zero, Nat.mod_eq_of_lt hl]; exact h0
      · have := h4 (j - 1) (by omega)
        rw [show l + 1 + (j - 1) = l + j by omega] at this
        exact this
theorem m1_nn : ¬ (0 : Int32) ≤ -1 := by decide
theorem ni_m1 {a : Nat} (h : a < 2147483648) : ¬ nI a = -1 := by
  intro e
  have := nI_pos (n := a) (by omega)
  rw [e] at this
  exact this (by decide)
/-- the loop that keeps the first ready one -/
theorem first_loop {rd : Nat → Prop} {l : Nat} {body : Int32 × Int32 → Option ((Int32 × Int32) ⊕ (Int32 × Int32))} (hb : ∀ k b, k < 8 → (b = -1 ∨ ∃ a, a < 8 ∧ b = nI a) → (rd ((l + k) % 8) ∧ body (b, nI k) = some (.inl (if b = -1 then nI ((l + k) % 8) else b, nI (k + 1)))) ∨ (¬ rd ((l + k) % 8) ∧ body (b, nI k) = some (.inl (b, nI (k + 1))))) (he : ∀ b, body (b, nI 8) = some (.inr (b, nI 8))) : ∃ c, lp body 1000 (-1, 0) = some (c, nI 8) ∧ FS rd l c := by
  obtain ⟨r, hr, h1, h2⟩ : ∃ r : Int32 × Int32, lp body 1000 (-1, 0) = some r ∧ r.2 = nI 8 ∧ FS rd l r.1 := by
    refine lp_cnt (fun k s => s.2 = nI k ∧ ((s.1 = -1 ∧ ∀ j, j < k → ¬ rd ((l + j) % 8)) ∨ ∃ m, m < k ∧ s.1 = nI ((l + m) % 8) ∧ rd ((l + m) % 8) ∧ ∀ j, j < m → ¬ rd ((l + j) % 8))) 8 _ ?_ ?_ 1000 0 (-1, 0) (by omega) (by omega) ⟨rfl, Or.inl ⟨rfl, fun j h => by omega⟩⟩
    · intro k s hk hI
      obtain ⟨b, x⟩ := s
      obtain ⟨e1, e2⟩ := hI
      have e1 : x = nI k := e1
      subst e1
      left
      dsimp only at e2
      have hbb : b = -1 ∨ ∃ a, a < 8 ∧ b = nI a := by
        rcases e2 with ⟨q, -⟩ | ⟨m, -, q, -⟩
        · exact Or.inl q
        · exact Or.inr ⟨(l + m) % 8, by omega, q⟩
      rcases hb k b hk hbb with ⟨z1, z2⟩ | ⟨z1, z2⟩
      · refine ⟨_, z2, rfl, Or.inr ?_⟩
        rcases e2 with ⟨q, q2⟩ | ⟨m, m1, q, m2, m3⟩
        · exact ⟨k, by omega, by dsimp only; rw [if_pos q], z1, q2⟩
        · exact ⟨m, by omega, by dsimp only; rw [q, if_neg (ni_m1 (by omega))], m2, m3⟩
      · refine ⟨_, z2, rfl, ?_⟩
        rcases e2 with ⟨q, q2⟩ | ⟨m, m1, q, m2, m3⟩
        · refine Or.inl ⟨q, fun j hj => ?_⟩
          by_cases e : j = k
          · subst e; exact z1
          · exact q2 j (by omega)
        · exact Or.inr ⟨m, by omega, q, m2, m3⟩
    · intro s hI
      obtain ⟨b, x⟩ := s
      obtain ⟨e1, e2⟩ := hI
      have e1 : x = nI 8 := e1
      subst e1
      exact ⟨_, he b, rfl, e2⟩
  obtain ⟨c, x⟩ := r
  have h1 : x = nI 8 := h1
  subst h1
  exact ⟨c, hr, h2⟩
/-- the ready one with the least growth, the least of them -/
noncomputable def bs (rd : Nat → Prop) (gw : Nat → Int32) : Nat → Int32
  | 0 => -1
  | j + 1 => @ite _ (rd j) (Classical.propDecidable _) (if bs rd gw j = -1 then nI j else if gw (ix (bs rd gw j)) ≤ gw j then bs rd gw j else nI j) (bs rd gw j)
theorem bs_or (rd : Nat → Prop) (gw : Nat → Int32) : ∀ j, bs rd gw j = -1 ∨ ∃ a, a < j ∧ bs rd gw j = nI a ∧ rd a
  | 0 => Or.inl rfl
  | j + 1 => by
    unfold bs
    by_cases h : rd j
    · rw [if_pos h]
      by_cases h1 : bs rd gw j = -1
      · rw [if_pos h1]; exact Or.inr ⟨j, by omega, rfl, h⟩
      · rw [if_neg h1]
        by_cases h2 : gw (ix (bs rd gw j)) ≤ gw j
        · rw [if_pos h2]
          rcases bs_or rd gw j with q | ⟨a, q1, q2, q3⟩
          · exact absurd q h1
          · exact Or.inr ⟨a, by omega, q2, q3⟩
        · rw [if_neg h2]; exact Or.inr ⟨j, by omega, rfl, h⟩
    · rw [if_neg h]
      rcases bs_or rd gw j with q | ⟨a, q1, q2, q3⟩
      · exact Or.inl q
      · exact Or.inr ⟨a, by omega, q2, q3⟩
theorem n_rem8 {a : Nat} (h : a < 2147483648) : nI a - nI a / 8 * 8 = nI (a % 8) := pk_rem (d := 8) (by omega) (by omega) (by omega)
section SC
variable {g : GD} {pm : Nat → Int32} {pe R fd on : Nat → Nat} {σ ρ : ST}
theorem C_from_eq (hw : WG g) (hc : GC g pm pe σ) (hk : KC g pe R fd on σ) (hb : KB g R fd on) {l : Nat} (hl : l < 8) : ∃ c, C_chooseFrom σ (nI l) = some c ∧ FS (rdy g R fd on) l c := by
  unfold C_chooseFrom
  obtain ⟨r, hr, hp⟩ : ∃ r : Int32 ⊕ Int32, lp (fun s1 : Int32 =>
  if 8 ≤ s1 then
  (some (.inr (.inl s1))) else
  ((C_canFire σ ((nI l + s1) - (nI l + s1) / 8 * 8)).bind (fun b1 => 
  (if b1 = 0 then
  (some (.inl (s1 + 1))) else
  (some (.inr (.inr ((nI l + s1) - (nI l + s1) / 8 * 8)))))))) 1000 0 = some r ∧ (match r with
    | .inl _ => ∀ k, k < 8 → ¬ rdy g R fd on ((l + k) % 8)
    | .inr c => FS (rdy g R fd on) l c) := by
    refine lp_cnt (fun j (s : Int32) => s = nI j ∧ ∀ k, k < j → ¬ rdy g R fd on ((l + k) % 8)) 8 _ ?_ ?_ 1000 0 0 (by omega) (by omega) ⟨rfl, fun e h => by omega⟩
    · intro j s hj hI
      obtain ⟨e1, e2⟩ := hI
      subst e1
      rw [if_neg (lt8 hj), nI_add, n_rem8 (by omega), n_add1]
      rcases C_can_eq hw hc hk hb (show (l + j) % 8 < 8 by omega) with ⟨z1, z2⟩ | ⟨z1, z2⟩
      · right
        rw [z2]
        exact ⟨_, rfl, Or.inr ⟨j, hj, rfl, z1, e2⟩⟩
      · left
        rw [z2]
        refine ⟨_, rfl, rfl, fun k hk => ?_⟩
        by_cases e : k = j
        · subst e; exact z1
        · exact e2 k (by omega)
    · intro s hI
      obtain ⟨e1, e2⟩ := hI
      subst e1
      rw [if_pos ge8]
      exact ⟨_, rfl, e2⟩
  rw [hr]
  rcases r with s | v
  · exact ⟨-1, rfl, Or.inl ⟨rfl, hp⟩⟩
  · exact ⟨v, rfl, hp⟩
theorem C_few_eq (hw : WG g) (hc : GC g pm pe σ) (hk : KC g pe R fd on σ) (hb : KB g R fd on) : C_chooseFewestTokens σ = some (bs (rdy g R fd on) (fun a => gwl g a (ne g)) 8) := by
  unfold C_chooseFewestTokens
  rw [show lp (fun s1 : Int32 × Int32 × Int32 =>
  if 8 ≤ s1.2.2 then
  (some (.inr ((s1.1, s1.2.1, s1.2.2)))) else
  ((C_canFire σ s1.2.2).bind (fun b1 => 
  (if b1 = 0 then
  (some (.inl ((s1.1, s1.2.1, s1.2.2 + 1)))) else
  ((C_tokensWonBy σ s1.2.2).bind (fun b2 => 
  (if s1.1 = (-1) then
  (some (.inl ((s1.2.2, b2, s1.2.2 + 1)))) else
  (if s1.2.1 ≤ b2 then
  (some (.inl ((s1.1, s1.2.1, s1.2.2 + 1)))) else
  (some (.inl ((s1.2.2, b2, s1.2.2 + 1)))))))))))) 1000 ((-1, 0, 0)) = some (bs (rdy g R fd on) (fun a => gwl g a (ne g)) 8, (if bs (rdy g R fd on) (fun a => gwl g a (ne g)) 8 = -1 then 0 else gwl g (ix (bs (rdy g R fd on) (fun a => gwl g a (ne g)) 8)) (ne g)), nI 8) from ?_]
  · rfl
  · refine lp_for (fun j => (bs (rdy g R fd on) (fun a => gwl g a (ne g)) j, (if bs (rdy g R fd on) (fun a => gwl g a (ne g)) j = -1 then 0 else gwl g (ix (bs (rdy g R fd on) (fun a => gwl g a (ne g)) j)) (ne g)), nI j)) 8 (fun j hj => ?_) ?_ 1000 0 (by omega) (by omega)
    · dsimp only
      rw [if_neg (lt8 hj), n_add1]
      conv => rhs; rw [bs]
      generalize bs (rdy g R fd on) (fun a => gwl g a (ne g)) j = b
      rcases C_can_eq hw hc hk hb hj with ⟨z1, z2⟩ | ⟨z1, z2⟩
      · rw [z2]
        simp only [Option.bind_some]
        rw [if_neg (show ¬ (1 : Int32) = 0 by decide), C_won_eq hw hc hj, if_pos z1]
        simp only [Option.bind_some]
        by_cases h1 : b = -1
        · rw [if_pos h1, if_pos h1, if_neg (ni_m1 (by omega)), nx (by omega)]
        · rw [if_neg h1, if_neg h1, if_neg h1]
          by_cases h2 : gwl g (ix b) (ne g) ≤ gwl g j (ne g)
          · rw [if_pos h2, if_pos h2, if_neg h1]
          · rw [if_neg h2, if_neg h2, if_neg (ni_m1 (by omega)), nx (by omega)]
      · rw [z2, if_neg z1]
        rfl
    · dsimp only
      rw [if_pos ge8]
/-- the choice of a policy -/
def ChS (g : GD) (rd : Nat → Prop) (p l : Nat) (c : Int32) : Prop := if p = 1 then c = bs rd (fun a => gwl g a (ne g)) 8 else if p = 2 then FS rd l c else FS rd 0 c
theorem ChS.uq {rd : Nat → Prop} {p l : Nat} {c c' : Int32} (h : ChS g rd p l c) (h' : ChS g rd p l c') : c = c' := by
  unfold ChS at h h'
  by_cases h1 : p = 1
  · rw [if_pos h1] at h h'; rw [h, h']
  · rw [if_neg h1] at h h'
    by_cases h2 : p = 2
    · rw [if_pos h2] at h h'; exact h.uq h'
    · rw [if_neg h2] at h h'; exact h.uq h'
theorem ChS.m1 {rd : Nat → Prop} {l : Nat} {c : Int32} (h : c = bs rd (fun a => gwl g a (ne g)) 8) : ChS g rd 1 l c := by
  unfold ChS; rw [if_pos (show 1 = 1 from rfl)]; exact h
theorem ChS.m2 {rd : Nat → Prop} {l : Nat} {c : Int32} (h : FS rd l c) : ChS g rd 2 l c := by
  unfold ChS; rw [if_neg (show ¬ 2 = 1 by decide), if_pos (show 2 = 2 from rfl)]; exact h
theorem ChS.m0 {rd : Nat → Prop} {l : Nat} {c : Int32} (h : FS rd 0 c) : ChS g rd 0 l c := by
  unfold ChS; rw [if_neg (show ¬ 0 = 1 by decide), if_neg (show ¬ 0 = 2 by decide)]; exact h
theorem FS.or {rd : Nat → Prop} {l : Nat} {c : Int32} (h : FS rd l c) : (c = -1) ∨ ∃ a, a < 8 ∧ c = nI a ∧ rd a := by
  rcases h with ⟨h1, h2⟩ | ⟨k, h1, h2, h3, h4⟩
  · exact Or.inl h1
  · exact Or.inr ⟨_, by omega, h2, h3⟩
theorem ChS.or {rd : Nat → Prop} {p l : Nat} {c : Int32} (h : ChS g rd p l c) : (c = -1) ∨ ∃ a, a < 8 ∧ c = nI a ∧ rd a := by
  unfold ChS at h
  by_cases h1 : p = 1
  · rw [if_pos h1] at h
    rw [h]
    exact bs_or rd _ 8
  · rw [if_neg h1] at h
    by_cases h2 : p = 2
    · rw [if_pos h2] at h; exact h.or
    · rw [if_neg h2] at h; exact h.or
theorem C_choose_eq (hw : WG g) (hc : GC g pm pe σ) (hk : KC g pe R fd on σ) (hb : KB g R fd on) {p l : Nat} (hp : p ≤ 2) (hl : l < 8) : ∃ c, C_choose σ (nI p) (nI l) = some c ∧ ChS g (rdy g R fd on) p l c := by
  unfold C_choose
  by_cases h1 : p = 1
  · subst h1
    rw [if_pos (show nI 1 = 1 from rfl), C_few_eq hw hc hk hb]
    exact ⟨_, rfl, ChS.m1 rfl⟩
  · rw [if_neg (show ¬ nI p = 1 by rw [show (1 : Int32) = nI 1 from rfl, n_eq (by omega) (by omega)]; exact h1)]
    by_cases h2 : p = 2
    · subst h2
      rw [if_pos (show nI 2 = 2 from rfl)]
      obtain ⟨c, c1, c2⟩ := C_from_eq hw hc hk hb hl
      rw [c1]
      exact ⟨c, rfl, ChS.m2 c2⟩
    · have h0 : p = 0 := by omega
      subst h0
      rw [if_neg (show ¬ nI 0 = 2 by decide)]
      obtain ⟨c, c1, c2⟩ := C_from_eq hw hc hk hb (l := 0) (by omega)
      rw [show (0 : Int32) = nI 0 from rfl, c1]
      exact ⟨c, rfl, ChS.m0 c2⟩
abbrev pb (σ : ST) (x1 x2 : Int32) : Int32 × Int32 → Option ((Int32 × Int32) ⊕ (Int32 × Int32)) := fun s2 : Int32 × Int32 =>
  if 8 ≤ s2.2 then
  (some (.inr ((s2.1, s2.2)))) else
  (if x1 = 2 then
  ((M_ready σ (((s2.2 + x2) + 1) - ((s2.2 + x2) + 1) / 8 * 8)).bind (fun b10 => 
  (if b10 = 0 then
  (some (.inl ((s2.1, s2.2 + 1)))) else
  (if s2.1 < 0 then
  (some (.inl ((((s2.2 + x2) + 1) - ((s2.2 + x2) + 1) / 8 * 8, s2.2 + 1)))) else
  (if x1 = 1 then
  ((M_growth σ (((s2.2 + x2) + 1) - ((s2.2 + x2) + 1) / 8 * 8)).bind (fun b11 => 
  ((M_growth σ s2.1).bind (fun b12 => 
  (if b12 ≤ b11 then
  (some (.inl ((s2.1, s2.2 + 1)))) else
  (some (.inl ((((s2.2 + x2) + 1) - ((s2.2 + x2) + 1) / 8 * 8, s2.2 + 1))))))))) else
  (some (.inl ((s2.1, s2.2 + 1))))))))) else
  ((M_ready σ s2.2).bind (fun b7 => 
  (if b7 = 0 then
  (some (.inl ((s2.1, s2.2 + 1)))) else
  (if s2.1 < 0 then
  (some (.inl ((s2.2, s2.2 + 1)))) else
  (if x1 = 1 then
  ((M_growth σ s2.2).bind (fun b8 => 
  ((M_growth σ s2.1).bind (fun b9 => 
  (if b9 ≤ b8 then
  (some (.inl ((s2.1, s2.2 + 1)))) else
  (some (.inl ((s2.2, s2.2 + 1))))))))) else
  (some (.inl ((s2.1, s2.2 + 1))))))))))
theorem M_pick_def (σ : ST) (x1 x2 : Int32) : M_pick σ x1 x2 = if x1 = 2 then (if x2 < 0 then ((lp (pb σ x1 x2) 1000 (-1, 0)).bind (fun r2 : Int32 × Int32 => some r2.1)) else ((M_ready σ x2).bind (fun b13 => (if b13 = 0 then ((lp (pb σ x1 x2) 1000 (-1, 0)).bind (fun r3 : Int32 × Int32 => some r3.1)) else (some x2))))) else ((lp (pb σ x1 x2) 1000 (-1, 0)).bind (fun r1 : Int32 × Int32 => some r1.1)) := rfl
theorem M_pb2 (hw : WG g) (hm : GM g pm ρ) (hk : KM g R fd on ρ) (hb : KB g R fd on) {l : Nat} {x2 : Int32} (hx : ∀ k, k < 8 → ((nI k + x2) + 1) - ((nI k + x2) + 1) / 8 * 8 = nI ((l + k) % 8)) : ∃ c, lp (pb ρ 2 x2) 1000 (-1, 0) = some (c, nI 8) ∧ FS (rdy g R fd on) l c := by
  refine first_loop (fun k b hk8 hbb => ?_) (fun b => ?_)
  · unfold pb
    dsimp only
    rw [if_neg (lt8 hk8), if_pos (show (2 : Int32) = 2 from rfl), hx k hk8, n_add1]
    rcases M_ready_eq hw hm hk hb (show (l + k) % 8 < 8 by omega) with ⟨z1, z2⟩ | ⟨z1, z2⟩
    · left
      refine ⟨z1, ?_⟩
      rw [z2]
      simp only [Option.bind_some]
      rw [if_neg (show ¬ (1 : Int32) = 0 by decide)]
      rcases hbb with h | ⟨a, ha, h⟩
      · subst h
        rw [if_pos (show (-1 : Int32) < 0 by decide), if_pos rfl]
      · subst h
        rw [if_neg (nI_pos (by omega)), if_neg (show ¬ (2 : Int32) = 1 by decide), if_neg (ni_m1 (by omega))]
    · right
      refine ⟨z1, ?_⟩
      rw [z2]
      rfl
  · unfold pb
    dsimp only
    rw [if_pos ge8]
theorem M_pb0 (hw : WG g) (hm : GM g pm ρ) (hk : KM g R fd on ρ) (hb : KB g R fd on) {x2 : Int32} : ∃ c, lp (pb ρ 0 x2) 1000 (-1, 0) = some (c, nI 8) ∧ FS (rdy g R fd on) 0 c := by
  refine first_loop (fun k b hk8 hbb => ?_) (fun b => ?_)
  · rw [show (0 + k) % 8 = k by omega]
    unfold pb
    dsimp only
    rw [if_neg (lt8 hk8), if_neg (show ¬ (0 : Int32) = 2 by decide), n_add1]
    rcases M_ready_eq hw hm hk hb hk8 with ⟨z1, z2⟩ | ⟨z1, z2⟩
    · left
      refine ⟨z1, ?_⟩
      rw [z2]
      simp only [Option.bind_some]
      rw [if_neg (show ¬ (1 : Int32) = 0 by decide)]
      rcases hbb with h | ⟨a, ha, h⟩
      · subst h
        rw [if_pos (show (-1 : Int32) < 0 by decide), if_pos rfl]
      · subst h
        rw [if_neg (nI_pos (by omega)), if_neg (show ¬ (0 : Int32) = 1 by decide), if_neg (ni_m1 (by omega))]
    · right
      refine ⟨z1, ?_⟩
      rw [z2]
      rfl
  · unfold pb
    dsimp only
    rw [if_pos ge8]
theorem M_pb1 (hw : WG g) (hm : GM g pm ρ) (hk : KM g R fd on ρ) (hb : KB g R fd on) {x2 : Int32} : lp (pb ρ 1 x2) 1000 (-1, 0) = some (bs (rdy g R fd on) (fun a => gwl g a (ne g)) 8, nI 8) := by
  refine lp_for (fun j => (bs (rdy g R fd on) (fun a => gwl g a (ne g)) j, nI j)) 8 (fun j hj => ?_) ?_ 1000 0 (by omega) (by omega)
  · unfold pb
    dsimp only
    rw [if_neg (lt8 hj), if_neg (show ¬ (1 : Int32) = 2 by decide), n_add1]
    conv => rhs; rw [bs]
    have hbb := bs_or (rdy g R fd on) (fun a => gwl g a (ne g)) j
    generalize bs (rdy g R fd on) (fun a => gwl g a (ne g)) j = b at *
    rcases M_ready_eq hw hm hk hb hj with ⟨z1, z2⟩ | ⟨z1, z2⟩
    · rw [z2]
      simp only [Option.bind_some]
      rw [if_neg (show ¬ (1 : Int32) = 0 by decide), if_pos z1]
      rcases hbb with h | ⟨a, ha, h, -⟩
      · subst h
        rw [if_pos (show (-1 : Int32) < 0 by decide), if_pos rfl]
      · subst h
        rw [if_neg (nI_pos (by omega)), if_pos trivial, if_neg (ni_m1 (by omega)), M_growth_eq hw hm hj, M_growth_eq hw hm (show a < 8 by omega), nx (by omega)]
        simp only [Option.bind_some]
        by_cases h2 : gwl g a (ne g) ≤ gwl g j (ne g)
        · rw [if_pos h2, if_pos h2]
        · rw [if_neg h2, if_neg h2]
    · rw [z2, if_neg z1]
      rfl
  · unfold pb
    dsimp only
    rw [if_pos ge8]
/-- last: -1 at first (l = 0), then the actor -/
theorem M_pick_eq (hw : WG g) (hm : GM g pm ρ) (hk : KM g R fd on ρ) (hb : KB g R fd on) {p l : Nat} (hp : p ≤ 2) (hl : l < 8) {x2 : Int32} (hx : (x2 = -1 ∧ l = 0) ∨ x2 = nI l) : ∃ c, M_pick ρ (nI p) x2 = some c ∧ ChS g (rdy g R fd on) p l c := by
  rw [M_pick_def]
  by_cases h1 : p = 1
  · subst h1
    rw [if_neg (show ¬ nI 1 = 2 by decide), show nI 1 = 1 from rfl, M_pb1 hw hm hk hb]
    exact ⟨_, rfl, ChS.m1 rfl⟩
  · by_cases h2 : p = 2
    · subst h2
      rw [if_pos (show nI 2 = 2 from rfl), show nI 2 = 2 from rfl]
      rcases hx with ⟨q1, q2⟩ | q1
      · subst q1 q2
        rw [if_pos (show (-1 : Int32) < 0 by decide)]
        obtain ⟨c, c1, c2⟩ := M_pb2 hw hm hk hb (l := 0) (x2 := -1) (fun k hk => by
          rw [Int32.add_assoc, show (-1 : Int32) + 1 = 0 by decide, Int32.add_zero, n_rem8 (by omega), Nat.zero_add])
        rw [c1]
        exact ⟨c, rfl, ChS.m2 c2⟩
      · subst q1
        rw [if_neg (nI_pos (by omega))]
        rcases M_ready_eq hw hm hk hb hl with ⟨z1, z2⟩ | ⟨z1, z2⟩
        · rw [z2]
          refine ⟨nI l, rfl, ChS.m2 (Or.inr ⟨0, by omega, ?_, ?_, fun j hj => by omega⟩)⟩
          · rw [Nat.add_zero, Nat.mod_eq_of_lt hl]
          · rw [Nat.add_zero, Nat.mod_eq_of_lt hl]; exact z1
        · rw [z2]
          simp only [Option.bind_some]
          rw [if_pos trivial]
          obtain ⟨c, c1, c2⟩ := M_pb2 hw hm hk hb (l := l + 1) (x2 := nI l) (fun k hk => by
            rw [nI_add, n_add1, n_rem8 (by omega), show k + l + 1 = l + 1 + k by omega])
          rw [c1]
          exact ⟨c, rfl, ChS.m2 (c2.next hl z1)⟩
    · have h0 : p = 0 := by omega
      subst h0
      rw [if_neg (show ¬ nI 0 = 2 by decide), show nI 0 = 0 from rfl]
      obtain ⟨c, c1, c2⟩ := M_pb0 hw hm hk hb (x2 := x2)
      rw [c1]
      exact ⟨c, rfl, ChS.m0 c2⟩
end SC
