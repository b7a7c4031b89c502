/-! PURE: one firing of the reference, whole; the run -/
theorem lp_cnt2 {S R S' R' : Type} {body : S → Option (S ⊕ R)} {body' : S' → Option (S' ⊕ R')} (I : Nat → S → S' → Prop) (N : Nat) (Post : R → R' → Prop) (hs : ∀ i s s', i < N → I i s s' → (∃ t t', body s = some (.inl t) ∧ body' s' = some (.inl t') ∧ I (i + 1) t t')) (he : ∀ s s', I N s s' → ∃ r r', body s = some (.inr r) ∧ body' s' = some (.inr r') ∧ Post r r') : ∀ n i s s', i ≤ N → N - i < n → I i s s' → ∃ r r', lp body n s = some r ∧ lp body' n s' = some r' ∧ Post r r' := by
  intro n
  induction n with
  | zero => intro i s s' _ h; omega
  | succ n ih =>
    intro i s s' hi hn hI
    unfold lp
    by_cases h : i < N
    · obtain ⟨t, t', e, e', hI'⟩ := hs i s s' h hI
      rw [e, e']
      exact ih (i + 1) t t' h (by omega) hI'
    · have e : i = N := by omega
      subst e
      obtain ⟨r, r', e, e', hp⟩ := he s s' hI
      rw [e, e']
      exact ⟨r, r', rfl, rfl, hp⟩
def AM (g : GD) (la fx sx : Nat → Int32) (ρ : ST) : Prop := ∀ a, a < 8 → th g a = 1 → gi ρ 23 0 a = la a ∧ gi ρ 24 0 a = if kd g a = 2 then sx a else fx a
def FrG (ρ ρ' : ST) : Prop := ∀ K i k, ¬ (21 ≤ K ∧ K ≤ 24) → ¬ (K = 0 ∧ k = 19) → gi ρ' K i k = gi ρ K i k
section RM2
variable {g : GD} {pm : Nat → Int32} {ct : Nat → Nat} {tk : Nat → Nat → Int32} {la fx sx : Nat → Int32} {ρ : ST}
theorem M_fin (hw : WG g) (hm : GM g pm ρ) (hT : TM g ct tk ρ) {a : Nat} (ha : a < 8) (hct0 : ∀ e, e < ne g → ct e ≤ 256) (hct : ∀ e, e < ne g → ctP g ct a e ≤ 256) (y m : Int32) : ∃ ρ', (lp (fun s16 : ST × Int32 =>
  if (gi s16.1 0 0 8) ≤ s16.2 then
  (some (.inr ((s16.1, s16.2)))) else
  (if inb s16.2 13 then 
  (if (gi s16.1 4 0 (ix s16.2)) = (nI a) then
  ((lp (fun s17 : ST × Int32 =>
  if (gi s17.1 6 0 (ix s16.2)) ≤ s17.2 then
  (some (.inr ((s17.1, s17.2)))) else
  (if inb s16.2 12 then 
  (if inb (((s16.2 * 400) + (gi s17.1 22 0 (ix s16.2))) + s17.2) 4800 then 
  (some (.inl ((su s17.1 21 0 (ix (((s16.2 * 400) + (gi s17.1 22 0 (ix s16.2))) + s17.2)) (y + s17.2), s17.2 + 1)))) else none) else none)) 1000 ((s16.1, 0))).bind (fun r17 : ST × Int32 =>
  if inb s16.2 12 then 
  (some (.inl ((su r17.1 22 0 (ix s16.2) ((gi r17.1 22 0 (ix s16.2)) + (gi r17.1 6 0 (ix s16.2))), s16.2 + 1)))) else none)) else
  (some (.inl ((s16.1, s16.2 + 1))))) else none)) 1000 ((su (su ρ 24 0 a m) 23 0 a y, 0))).bind (fun r16 : ST × Int32 =>
  some (su r16.1 0 0 19 ((gi r16.1 0 0 19) + 1))) = some ρ' ∧ FrG ρ ρ' ∧ TM g (ctP g ct a) (tkP g ct tk a y) ρ' ∧ gi ρ' 0 0 19 = gi ρ 0 0 19 + 1 ∧ (∀ b, gi ρ' 23 0 b = if b = a then y else gi ρ 23 0 b) ∧ (∀ b, gi ρ' 24 0 b = if b = a then m else gi ρ 24 0 b) := by
  have hm2 : GM g pm (su (su ρ 24 0 a m) 23 0 a y) := hm.fr (fun K i k h1 h2 => by rw [gi_K (by omega), gi_K (by omega)])
  have hT2 : TM g ct tk (su (su ρ 24 0 a m) 23 0 a y) := fun e he => by
    obtain ⟨q1, q2⟩ := hT e he
    refine ⟨by rw [gi_K (by decide), gi_K (by decide)]; exact q1, fun i hi => by rw [gi_K (by decide), gi_K (by decide)]; exact q2 i hi⟩
  obtain ⟨⟨r1, r2⟩, hr, rf, rT⟩ := M_puts hw hm2 hT2 ha hct0 hct y
  rw [hr]
  dsimp only at rf rT
  refine ⟨_, rfl, fun K i k h1 h2 => ?_, fun e he => ?_, ?_, fun b => ?_, fun b => ?_⟩
  · dsimp only
    rw [gi0 (by omega), rf K i k (by omega) (by omega), gi_K (by omega), gi_K (by omega)]
  · obtain ⟨q1, q2⟩ := rT e he
    dsimp only
    exact ⟨by rw [gi_K (by decide)]; exact q1, fun i hi => by rw [gi_K (by decide)]; exact q2 i hi⟩
  · dsimp only
    rw [gi_same, rf 0 0 19 (by decide) (by decide), gi_K (by decide), gi_K (by decide)]
  · dsimp only
    rw [gi_K (by decide), rf 23 0 b (by decide) (by decide)]
    by_cases hb : b = a
    · subst hb
      rw [gi_same, if_pos rfl]
    · rw [gi_k hb, if_neg hb, gi_K (by decide)]
  · dsimp only
    rw [gi_K (by decide), rf 24 0 b (by decide) (by decide), gi_K (by decide)]
    by_cases hb : b = a
    · subst hb
      rw [gi_same, if_pos rfl]
    · rw [gi_k hb, if_neg hb]
theorem M_fire_eq (hw : WG g) (hm : GM g pm ρ) (hT : TM g ct tk ρ) (hA : AM g la fx sx ρ) {a : Nat} (ha : a < 8) (ta : th g a = 1) (hout : ∀ e, e < ne g → tt g e = a → rout g e ≤ ct e) (hct : ∀ e, e < ne g → ct e ≤ 256) (hct2 : ∀ e, e < ne g → ctP g (ctT g ct a) a e ≤ 256) : ∃ ρ', M_fire ρ (nI a) = some ρ' ∧ FrG ρ ρ' ∧ TM g (ctP g (ctT g ct a) a) (tkP g (ctT g ct a) (tkT g tk a) a (yK g pm fx sx a (wX g tk a (ne g)))) ρ' ∧ AM g (u1 la a (yK g pm fx sx a (wX g tk a (ne g)))) (u1 fx a (wX g tk a (ne g))) (u1 sx a (sx a + wX g tk a (ne g))) ρ' ∧ gi ρ' 0 0 19 = gi ρ 0 0 19 + 1 := by
  unfold M_fire
  obtain ⟨⟨r1, r2, r3⟩, hr, rf, rT, rx⟩ := M_takes hw hm hT ha hout hct
  rw [hr]
  simp only [Option.bind_some]
  dsimp only at rf rT rx
  subst rx
  have hm1 : GM g pm r1 := hm.fr (fun K i k h1 h2 => rf K i k (by omega) (by omega))
  obtain ⟨-, k2, k3⟩ := hm1.2.1 a ha
  obtain ⟨-, k4⟩ := hA a ha ta
  have hk := (hw.2.1 a ha).2
  have hct1 : ∀ e, e < ne g → ctT g ct a e ≤ 256 := fun e he => by
    have := hct e he
    unfold ctT
    split <;> omega
  rw [← rf 24 0 a (by decide) (by decide)] at k4
  rw [if_pos (nb ha (by decide)), nx (by omega)]
  generalize hx : wX g tk a (ne g) = x
  obtain ⟨y, hy⟩ : ∃ y, yK g pm fx sx a x = y := ⟨_, rfl⟩
  rw [hy]
  obtain ⟨m, hmm⟩ : ∃ m, (if kd g a = 2 then sx a + x else x) = m := ⟨_, rfl⟩
  obtain ⟨ρ', f1, f2, f3, f4, f5, f6⟩ := M_fin hw hm1 rT ha hct1 hct2 y m
  have goal2 : FrG ρ ρ' ∧ TM g (ctP g (ctT g ct a) a) (tkP g (ctT g ct a) (tkT g tk a) a y) ρ' ∧ AM g (u1 la a y) (u1 fx a x) (u1 sx a (sx a + x)) ρ' ∧ gi ρ' 0 0 19 = gi ρ 0 0 19 + 1 := by
    refine ⟨fun K i k h1 h2 => by rw [f2 K i k h1 h2]; exact rf K i k (by omega) (by omega), f3, fun b hb tb => ?_, by rw [f4, rf 0 0 19 (by decide) (by decide)]⟩
    obtain ⟨q1, q2⟩ := hA b hb tb
    rw [f5 b, f6 b, rf 23 0 b (by decide) (by decide), rf 24 0 b (by decide) (by decide)]
    by_cases hba : b = a
    · subst hba
      simp only [u1, if_true, true_and]
      rw [← hmm]
    · simp only [u1, if_neg hba]
      exact ⟨q1, q2⟩
  rcases (show kd g a = 0 ∨ kd g a = 1 ∨ kd g a = 2 ∨ kd g a = 3 by omega) with e | e | e | e
  · have hk0 : gi r1 2 0 a = 0 := by rw [k2, e]; rfl
    rw [if_pos hk0, if_neg (by rw [hk0]; decide), k3]
    have ey : y = pm a + x := by rw [← hy]; unfold yK; rw [if_pos e]
    have em : m = x := by rw [← hmm, if_neg (by omega)]
    subst ey em
    exact ⟨ρ', f1, goal2⟩
  · have hk0 : gi r1 2 0 a = 1 := by rw [k2, e]; rfl
    rw [if_neg (by rw [hk0]; decide), if_pos hk0, if_neg (by rw [hk0]; decide), k3]
    have ey : y = pm a * x := by rw [← hy]; unfold yK; rw [if_neg (by omega), if_pos e]
    have em : m = x := by rw [← hmm, if_neg (by omega)]
    subst ey em
    exact ⟨ρ', f1, goal2⟩
  · have hk0 : gi r1 2 0 a = 2 := by rw [k2, e]; rfl
    rw [if_neg (by rw [hk0]; decide), if_neg (by rw [hk0]; decide), if_pos hk0, if_pos hk0, k4, if_pos e]
    have ey : y = sx a + x := by rw [← hy]; unfold yK; rw [if_neg (by omega), if_neg (by omega), if_pos e]
    have em : m = sx a + x := by rw [← hmm, if_pos e]
    subst em
    rw [ey] at f1
    exact ⟨ρ', f1, goal2⟩
  · have hk0 : gi r1 2 0 a = 3 := by rw [k2, e]; rfl
    rw [if_neg (by rw [hk0]; decide), if_neg (by rw [hk0]; decide), if_neg (by rw [hk0]; decide), if_neg (by rw [hk0]; decide), k4, if_neg (by omega)]
    have ey : y = x - fx a := by rw [← hy]; unfold yK; rw [if_neg (by omega), if_neg (by omega), if_neg (by omega)]
    have em : m = x := by rw [← hmm, if_neg (by omega)]
    subst ey em
    exact ⟨ρ', f1, goal2⟩
end RM2
