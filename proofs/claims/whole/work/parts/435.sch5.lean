/-! PURE: the schedule, both sides in step -/
theorem lp_cnt3 {S R S' R' : Type} {body : S → Option (S ⊕ R)} {body' : S' → Option (S' ⊕ R')} (I : Nat → S → S' → Prop) (N : Nat) (Post : R → R' → Prop) (hs : ∀ i s s', i < N → I i s s' → (∃ t t', body s = some (.inl t) ∧ body' s' = some (.inl t') ∧ I (i + 1) t t') ∨ ∃ r r', body s = some (.inr r) ∧ body' s' = some (.inr r') ∧ Post r r') (he : ∀ s s', I N s s' → ∃ r r', body s = some (.inr r) ∧ body' s' = some (.inr r') ∧ Post r r') : ∀ n i s s', i ≤ N → N - i < n → I i s s' → ∃ r r', lp body n s = some r ∧ lp body' n s' = some r' ∧ Post r r' := by
  intro n
  induction n with
  | zero => intro i s s' _ h; omega
  | succ n ih =>
    intro i s s' hi hn hI
    unfold lp
    by_cases h : i < N
    · rcases hs i s s' h hI with ⟨t, t', e, e', hI'⟩ | ⟨r, r', e, e', hp⟩
      · rw [e, e']
        exact ih (i + 1) t t' h (by omega) hI'
      · rw [e, e']
        exact ⟨r, r', rfl, rfl, hp⟩
    · have e : i = N := by omega
      subst e
      obtain ⟨r, r', e, e', hp⟩ := he s s' hI
      rw [e, e']
      exact ⟨r, r', rfl, rfl, hp⟩
def FrS (σ σ' : ST) : Prop := ∀ K i k, ¬ (K = 2 ∧ (k = 7 ∨ k = 8)) → ¬ (K = 1 ∧ k = 6) → K ≠ 8 → gi σ' K i k = gi σ K i k
def FrV (ρ ρ' : ST) : Prop := ∀ K i k, ¬ (15 ≤ K ∧ K ≤ 18) → ¬ (K = 0 ∧ k = 18) → gi ρ' K i k = gi ρ K i k
theorem GC.fs {g : GD} {pm : Nat → Int32} {pe : Nat → Nat} {σ σ' : ST} (hc : GC g pm pe σ) (hf : FrS σ σ') : GC g pm pe σ' := hc.cg (fun K i k h => hf K i k (by omega) (by omega) (by omega))
theorem GM.fv {g : GD} {pm : Nat → Int32} {ρ ρ' : ST} (hm : GM g pm ρ) (hf : FrV ρ ρ') : GM g pm ρ' := hm.cg (fun K i k h => hf K i k (by omega) (by omega))
abbrev cb (x1 : Int32) : ST × Int32 × Int32 → Option ((ST × Int32 × Int32) ⊕ ((ST × Int32 × Int32) ⊕ (Int32 × ST))) := fun s3 : ST × Int32 × Int32 =>
  if (gi s3.1 0 0 6) ≤ s3.2.2 then
  (some (.inr (.inl ((s3.1, s3.2.1, s3.2.2))))) else
  ((C_choose s3.1 x1 s3.2.1).bind (fun b1 => 
  (if b1 = (-1) then
  ((C_leastDue s3.1).bind (fun b3 => 
  (some (.inr (.inr ((b3, s3.1))))))) else
  ((C_fireCounting s3.1 b1).bind (fun b2 => 
  (if inb s3.2.2 64 then 
  (some (.inl ((su b2 8 0 (ix s3.2.2) b1, b1, s3.2.2 + 1)))) else none))))))
abbrev db (ρ : ST) : Int32 → Option (Int32 ⊕ (Int32 ⊕ (Int32 × ST))) := fun s6 : Int32 =>
  if 8 ≤ s6 then
  (some (.inr (.inl s6))) else
  (if inb s6 8 then 
  (if (gi ρ 1 0 (ix s6)) = 0 then
  (some (.inl (s6 + 1))) else
  (if (gi ρ 14 0 (ix s6)) ≤ (gi ρ 15 0 (ix s6)) then
  (some (.inl (s6 + 1))) else
  (some (.inr (.inr (((-200) - s6, ρ))))))) else none)
abbrev sb (b3 x1 : Int32) : ST × Int32 → Option ((ST × Int32) ⊕ ((ST × Int32) ⊕ (Int32 × ST))) := fun s5 : ST × Int32 =>
  if b3 ≤ (gi s5.1 0 0 18) then
  (some (.inr (.inl ((s5.1, s5.2))))) else
  ((M_pick s5.1 x1 s5.2).bind (fun b4 => 
  (if 0 ≤ b4 then
  ((M_step s5.1 b4).bind (fun b5 => 
  (some (.inl ((b5, b4)))))) else
  ((lp (db s5.1) 1000 0).bind (fun r6 : (Int32) ⊕ (Int32 × ST) => Sum.elim (fun o2 : Int32 =>
  ((M_step s5.1 b4).bind (fun b6 => 
  (some (.inl ((b6, b4))))))) (fun v2 : Int32 × ST => some (.inr (.inr v2))) r6)))))
section S5
variable {g : GD} {pm : Nat → Int32} {pe R : Nat → Nat} {σ0 ρ0 : ST}
theorem C_ld_eq {fd on : Nat → Nat} {σ : ST} (hw : WG g) (hc : GC g pm pe σ) (hk : KC g pe R fd on σ) (hb : KB g R fd on) {a : Nat} (ha : a < 8) (h : th g a = 1 ∧ fd a < R a) (hl : ∀ j, j < a → ¬ (th g j = 1 ∧ fd j < R j)) : C_leastDue σ = some (nI a) := by
  unfold C_leastDue
  rw [show lp (fun s1 : Int32 =>
  if 8 ≤ s1 then
  (some (.inr (.inl s1))) else
  (if inb s1 8 then 
  ((C_Actor_isDue σ (ix s1)).bind (fun b1 => 
  (if b1 = 0 then
  (some (.inl (s1 + 1))) else
  (some (.inr (.inr s1)))))) else none)) 1000 0 = some (.inr (nI a) : Int32 ⊕ Int32) from ?_]
  · rfl
  · refine lp_for (fun j => nI j) a (fun j hj => ?_) ?_ 1000 0 (by omega) (by omega)
    · rw [if_neg (lt8 (show j < 8 by omega)), if_pos (nb (show j < 8 by omega) (by decide)), nx (by omega), n_add1]
      rcases C_due_eq hw hc hk hb (show j < 8 by omega) with ⟨z1, z2⟩ | ⟨z1, z2⟩
      · exact absurd z1 (hl j hj)
      · rw [z2]
        rfl
    · rw [if_neg (lt8 ha), if_pos (nb ha (by decide)), nx (by omega)]
      rcases C_due_eq hw hc hk hb ha with ⟨z1, z2⟩ | ⟨z1, z2⟩
      · rw [z2]
        rfl
      · exact absurd h z1
theorem M_ld_eq {fd on : Nat → Nat} {ρ : ST} (hw : WG g) (hm : GM g pm ρ) (hk : KM g R fd on ρ) (hb : KB g R fd on) {a : Nat} (ha : a < 8) (h : th g a = 1 ∧ fd a < R a) (hl : ∀ j, j < a → ¬ (th g j = 1 ∧ fd j < R j)) : lp (db ρ) 1000 0 = some (.inr (-200 - nI a, ρ)) := by
  refine lp_for (fun j => nI j) a (fun j hj => ?_) ?_ 1000 0 (by omega) (by omega)
  · have w1 := (hw.2.1 j (by omega)).1
    obtain ⟨b1, b2⟩ := hb.1 j (by omega)
    have hlj := hl j hj
    unfold db
    rw [if_neg (lt8 (show j < 8 by omega)), if_pos (nb (show j < 8 by omega) (by decide)), nx (by omega), n_add1, (hm.2.1 j (by omega)).1]
    by_cases ht : th g j = 1
    · rw [if_neg (by rw [ht]; decide), hk.1 j (by omega) ht, hk.2.1 j (by omega), if_pos (by rw [n_le (by omega) (by omega)]; omega)]
    · rw [if_pos (by rw [show th g j = 0 by omega]; rfl)]
  · obtain ⟨b1, b2⟩ := hb.1 a ha
    unfold db
    rw [if_neg (lt8 ha), if_pos (nb ha (by decide)), nx (by omega), (hm.2.1 a ha).1, if_neg (by rw [h.1]; decide), hk.1 a ha h.1, hk.2.1 a ha, if_neg (by rw [n_le (by omega) (by omega)]; omega)]
/-- both, in the middle of the schedule -/
def JJ (g : GD) (pe R : Nat → Nat) (σ0 ρ0 : ST) (i : Nat) (s : ST × Int32 × Int32) (s' : ST × Int32) : Prop :=
  s.2.2 = nI i ∧ (∃ l, l < 8 ∧ s.2.1 = nI l ∧ ((s'.2 = -1 ∧ l = 0) ∨ s'.2 = nI l)) ∧ gi s'.1 0 0 18 = nI i ∧ FrS σ0 s.1 ∧ FrV ρ0 s'.1 ∧
  ∃ o fd on pk, SI g R i o fd on pk ∧ KC g pe R fd on s.1 ∧ KM g R fd on s'.1 ∧ (∀ e, e < ne g → gi s.1 2 (pe e) 8 = nI (pk e) ∧ gi s'.1 17 0 e = nI (pk e)) ∧ ∀ j, j < i → gi s.1 8 0 j = nI (o j) ∧ gi s'.1 16 0 j = nI (o j)
theorem sched (hw : WG g) (hb : HB g R) (hR0 : ∀ a, a < 8 → ¬ th g a = 1 → R a = 0) (hc : GC g pm pe σ0) (hm : GM g pm ρ0) (h6 : gi σ0 0 0 6 = nI (sm R 8)) {p : Nat} (hp : p ≤ 2) {s : ST × Int32 × Int32} {s' : ST × Int32} (hJ : JJ g pe R σ0 ρ0 0 s s') : ∃ r r', lp (cb (nI p)) 1000 s = some r ∧ lp (sb (nI (sm R 8)) (nI p)) 1000 s' = some r' ∧ ((∃ t t', r = .inl t ∧ r' = .inl t' ∧ JJ g pe R σ0 ρ0 (sm R 8) t t') ∨ ∃ a σ' ρ', a < 8 ∧ r = .inr (nI a, σ') ∧ r' = .inr (-200 - nI a, ρ') ∧ FrS σ0 σ' ∧ FrV ρ0 ρ') := by
  have h64 := hb.2.1
  refine lp_cnt3 (JJ g pe R σ0 ρ0) (sm R 8) _ ?_ ?_ 1000 0 s s' (by omega) (by omega) hJ
  · intro i s s' hi hI
    obtain ⟨σ, y, x⟩ := s
    obtain ⟨ρ, y'⟩ := s'
    obtain ⟨e1, ⟨l, l1, l2, l3⟩, e3, e4, e5, o, fd, on, pk, k1, k2, k3, k4, k5⟩ := hI
    have e1 : x = nI i := e1
    have l2 : y = nI l := l2
    subst e1 l2
    dsimp only at l3 e3 e4 e5 k2 k3 k4 k5
    have hc1 := hc.fs e4
    have hm1 := hm.fv e5
    have kb := k1.kb hw hb
    obtain ⟨c, c1, c2⟩ := C_choose_eq hw hc1 k2 kb hp l1
    obtain ⟨c', c3, c4⟩ := M_pick_eq hw hm1 k3 kb hp l1 l3
    have hcc := c2.uq c4
    subst hcc
    unfold cb sb
    dsimp only
    rw [e4 0 0 6 (by omega) (by omega) (by omega), h6, e3, if_neg (by rw [n_le (by omega) (by omega)]; omega), if_neg (by rw [n_le (by omega) (by omega)]; omega), c1, c3]
    simp only [Option.bind_some]
    rcases c2.or with hc' | ⟨a, ha, hc', hr⟩
    · right
      subst hc'
      rw [if_pos (show (-1 : Int32) = -1 from rfl), if_neg m1_nn]
      obtain ⟨a1, a2, a3⟩ := k1.due hi
      obtain ⟨a, ⟨b1, b2⟩, b3⟩ := pk_least (fun a => a < 8 ∧ (th g a = 1 ∧ fd a < R a)) ⟨a1, a2, Classical.byContradiction (fun q => by
        have : ¬ th g a1 = 1 := fun t => q ⟨t, a3⟩
        have := hR0 a1 a2 this
        omega)⟩
      have b3' : ∀ j, j < a → ¬ (th g j = 1 ∧ fd j < R j) := fun j hj q => b3 j hj ⟨by omega, q⟩
      rw [C_ld_eq hw hc1 k2 kb b1 b2 b3', M_ld_eq hw hm1 k3 kb b1 b2 b3']
      exact ⟨_, _, rfl, rfl, Or.inr ⟨a, σ, ρ, b1, rfl, rfl, e4, e5⟩⟩
    · left
      subst hc'
      rw [if_neg (ni_m1 (by omega)), if_pos (nI_pos' (by omega))]
      obtain ⟨σ', z1, z2, z3, z4⟩ := C_fire_cnt hw hc1 k2 kb (fun e he => ⟨(k4 e he).1, k1.2.2.2.2.2 e he⟩) ha hr.2.2
      obtain ⟨ρ', y1, y2, y3, y4, y5, y6⟩ := M_step_eq hw hm1 k3 kb (fun e he => ⟨(k4 e he).2, k1.2.2.2.2.2 e he⟩) ha hr.2.2 e3 (show i < 64 by omega)
      rw [z1, y1]
      simp only [Option.bind_some]
      rw [if_pos (nb (show i < 64 by omega) (by decide)), nx (by omega), n_add1]
      refine ⟨_, _, rfl, rfl, rfl, ⟨a, ha, rfl, Or.inr rfl⟩, y5, fun K i' k h1 h2 h3 => ?_, fun K i' k h1 h2 => ?_, _, _, _, _, k1.step hw hb ha hr, ⟨fun b hb8 => ?_, fun e he => ?_⟩, ⟨fun b hb8 tb => ?_, y4, fun e he => (y3 e he).1⟩, fun e he => ⟨?_, (y3 e he).2⟩, fun j hj => ?_⟩
      · dsimp only
        rw [gi_K h3, z2 K i' k h1 h2]; exact e4 K i' k h1 h2 h3
      · dsimp only
        rw [y2 K i' k h1 h2]; exact e5 K i' k h1 h2
      · dsimp only
        rw [gi_K (by decide), gi_K (by decide), z2 1 b 5 (by omega) (by omega)]
        exact ⟨(k2.1 b hb8).1, z4 b hb8⟩
      · dsimp only
        rw [gi_K (by decide)]; exact (z3 e he).1
      · dsimp only
        rw [y2 14 0 b (by omega) (by omega)]; exact k3.1 b hb8 tb
      · dsimp only
        rw [gi_K (by decide)]; exact (z3 e he).2
      · dsimp only
        rw [y6 j]
        by_cases hji : j = i
        · subst hji
          rw [gi_same, if_pos rfl, up_same]
          exact ⟨rfl, rfl⟩
        · rw [gi_k hji, if_neg hji, up_ne hji, z2 8 0 j (by omega) (by omega)]
          exact k5 j (by omega)
  · intro s s' hI
    obtain ⟨σ, y, x⟩ := s
    obtain ⟨ρ, y'⟩ := s'
    have hI' := hI
    obtain ⟨e1, -, e3, e4, e5, -⟩ := hI
    have e1 : x = nI (sm R 8) := e1
    subst e1
    dsimp only at e3 e4 e5
    unfold cb sb
    dsimp only
    rw [e4 0 0 6 (by omega) (by omega) (by omega), h6, e3, if_pos (by rw [n_le (by omega) (by omega)]; omega), if_pos (by rw [n_le (by omega) (by omega)]; omega)]
    exact ⟨_, _, rfl, rfl, Or.inl ⟨_, _, rfl, rfl, hI'⟩⟩
end S5
