/-! PURE: the class's balance -/
def LC (P : Nat → Nat) (σ : ST) : Prop := ∀ a, a < 8 → gi σ 1 a 3 = nI (P a)
def HC (S : Nat → Nat) (σ : ST) : Prop := ∀ a, a < 8 → gi σ 1 a 4 = nI (S a)
def FrP (σ σ' : ST) : Prop := ∀ K i k, ¬ (K = 1 ∧ (k = 3 ∨ k = 4)) → gi σ' K i k = gi σ K i k
theorem FrP.rf {σ : ST} : FrP σ σ := fun _ _ _ _ => rfl
theorem FrP.tr {a b c : ST} (h1 : FrP a b) (h2 : FrP b c) : FrP a c := fun K i k x => (h2 K i k x).trans (h1 K i k x)
theorem GC.fp {g : GD} {pm : Nat → Int32} {pe : Nat → Nat} {σ σ' : ST} (hc : GC g pm pe σ) (hf : FrP σ σ') : GC g pm pe σ' := hc.cg (fun K i k h => hf K i k (by omega))
theorem C_mk_eq (σ : ST) : ∃ σ', C_makePartsOfOne σ = some σ' ∧ FrP σ σ' ∧ LC (fun a => a) σ' ∧ HC (fun _ => 1) σ' := by
  unfold C_makePartsOfOne
  obtain ⟨r, hr, h1, h2, h3⟩ : ∃ r : ST × Int32, lp (fun s1 : ST × Int32 =>
  if 8 ≤ s1.2 then
  (some (.inr ((s1.1, s1.2)))) else
  (if inb s1.2 8 then 
  (some (.inl ((su (su s1.1 1 (ix s1.2) 3 s1.2) 1 (ix s1.2) 4 1, s1.2 + 1)))) else none)) 1000 ((σ, 0)) = some r ∧ FrP σ r.1 ∧ LC (fun a => a) r.1 ∧ HC (fun _ => 1) r.1 := by
    refine lp_cnt (fun j s => s.2 = nI j ∧ FrP σ s.1 ∧ (∀ a, a < j → gi s.1 1 a 3 = nI a ∧ gi s.1 1 a 4 = nI 1)) 8 _ ?_ ?_ 1000 0 (σ, 0) (by omega) (by omega) ⟨rfl, FrP.rf, fun a h => by omega⟩
    · intro j s hj hI
      obtain ⟨t, x⟩ := s
      obtain ⟨e1, e2, e3⟩ := hI
      have e1 : x = nI j := e1
      subst e1
      left
      dsimp only at e2 e3 ⊢
      rw [if_neg (lt8 hj), if_pos (nb hj (by decide)), nx (by omega), n_add1]
      refine ⟨_, rfl, rfl, fun K i k h => ?_, fun a ha => ?_⟩
      · dsimp only
        rw [gi0 (by omega), gi0 (by omega)]
        exact e2 K i k h
      · dsimp only
        by_cases haj : a = j
        · subst haj
          rw [gi_k (by decide), gi_same, gi_same]
          exact ⟨rfl, rfl⟩
        · rw [gi_i haj, gi_i haj, gi_i haj, gi_i haj]
          exact e3 a (by omega)
    · intro s hI
      obtain ⟨t, x⟩ := s
      obtain ⟨e1, e2, e3⟩ := hI
      have e1 : x = nI 8 := e1
      subst e1
      dsimp only at e2 e3 ⊢
      rw [if_pos ge8]
      exact ⟨_, rfl, e2, fun a ha => (e3 a ha).1, fun a ha => (e3 a ha).2⟩
  rw [hr]
  exact ⟨_, rfl, h1, h2, h3⟩
section BC
variable {g : GD} {pm : Nat → Int32} {pe : Nat → Nat} {P S : Nat → Nat} {σ : ST}
theorem C_join_eq (hP : ∀ a, a < 8 → P a < 8) (hL : LC P σ) (hS : HC S σ) {k l : Nat} (hk : k < 8) (hl : l < 8) : ∃ σ', C_joinParts σ (nI k) (nI l) = some σ' ∧ FrP σ σ' ∧ LC (jn P k l) σ' ∧ HC S σ' := by
  unfold C_joinParts
  obtain ⟨r, hr, h1, h2, h3⟩ : ∃ r : ST × Int32, lp (fun s1 : ST × Int32 =>
  if 8 ≤ s1.2 then
  (some (.inr ((s1.1, s1.2)))) else
  (if inb s1.2 8 then 
  (if (gi s1.1 1 (ix s1.2) 3) = nI l then
  (some (.inl ((su s1.1 1 (ix s1.2) 3 (nI k), s1.2 + 1)))) else
  (some (.inl ((s1.1, s1.2 + 1))))) else none)) 1000 ((σ, 0)) = some r ∧ FrP σ r.1 ∧ LC (jn P k l) r.1 ∧ HC S r.1 := by
    refine lp_cnt (fun j s => s.2 = nI j ∧ FrP σ s.1 ∧ (∀ a, a < 8 → gi s.1 1 a 3 = nI (if a < j then jn P k l a else P a)) ∧ HC S s.1) 8 _ ?_ ?_ 1000 0 (σ, 0) (by omega) (by omega) ⟨rfl, FrP.rf, fun a h => by rw [if_neg (by omega)]; exact hL a h, hS⟩
    · intro j s hj hI
      obtain ⟨t, x⟩ := s
      obtain ⟨e1, e2, e3, e4⟩ := hI
      have e1 : x = nI j := e1
      subst e1
      left
      dsimp only at e2 e3 e4 ⊢
      have pj := hP j hj
      rw [if_neg (lt8 hj), if_pos (nb hj (by decide)), nx (by omega), n_add1, e3 j hj, if_neg (show ¬ j < j by omega)]
      by_cases hjl : P j = l
      · rw [if_pos (by rw [hjl])]
        refine ⟨_, rfl, rfl, fun K i k' h => ?_, fun a ha => ?_, fun a ha => ?_⟩
        · dsimp only
          rw [gi0 (by omega)]
          exact e2 K i k' h
        · dsimp only
          by_cases haj : a = j
          · subst haj
            rw [gi_same, if_pos (by omega)]
            unfold jn
            rw [if_pos hjl]
          · rw [gi_i haj, e3 a ha]
            by_cases hlt : a < j
            · rw [if_pos hlt, if_pos (by omega)]
            · rw [if_neg hlt, if_neg (by omega)]
        · dsimp only
          rw [gi_k (by decide)]; exact e4 a ha
      · rw [if_neg (by rw [n_eq (by omega) (by omega)]; exact hjl)]
        refine ⟨_, rfl, rfl, e2, fun a ha => ?_, e4⟩
        dsimp only
        rw [e3 a ha]
        by_cases haj : a = j
        · subst haj
          rw [if_neg (by omega), if_pos (by omega)]
          unfold jn
          rw [if_neg hjl]
        · by_cases hlt : a < j
          · rw [if_pos hlt, if_pos (by omega)]
          · rw [if_neg hlt, if_neg (by omega)]
    · intro s hI
      obtain ⟨t, x⟩ := s
      obtain ⟨e1, e2, e3, e4⟩ := hI
      have e1 : x = nI 8 := e1
      subst e1
      dsimp only at e2 e3 e4 ⊢
      rw [if_pos ge8]
      exact ⟨_, rfl, e2, fun a ha => by rw [e3 a ha, if_pos ha], e4⟩
  rw [hr]
  exact ⟨_, rfl, h1, h2, h3⟩
theorem C_scale_eq (hP : ∀ a, a < 8 → P a < 8) (hL : LC P σ) (hS : HC S σ) {k u : Nat} (hk : k < 8) : ∃ σ', C_scalePart σ (nI k) (nI u) = some σ' ∧ FrP σ σ' ∧ LC P σ' ∧ HC (fun a => if P a = k then S a * u else S a) σ' := by
  unfold C_scalePart
  obtain ⟨r, hr, h1, h2, h3⟩ : ∃ r : ST × Int32, lp (fun s1 : ST × Int32 =>
  if 8 ≤ s1.2 then
  (some (.inr ((s1.1, s1.2)))) else
  (if inb s1.2 8 then 
  (if (gi s1.1 1 (ix s1.2) 3) = nI k then
  (some (.inl ((su s1.1 1 (ix s1.2) 4 ((gi s1.1 1 (ix s1.2) 4) * nI u), s1.2 + 1)))) else
  (some (.inl ((s1.1, s1.2 + 1))))) else none)) 1000 ((σ, 0)) = some r ∧ FrP σ r.1 ∧ LC P r.1 ∧ HC (fun a => if P a = k then S a * u else S a) r.1 := by
    refine lp_cnt (fun j s => s.2 = nI j ∧ FrP σ s.1 ∧ LC P s.1 ∧ (∀ a, a < 8 → gi s.1 1 a 4 = nI (if a < j ∧ P a = k then S a * u else S a))) 8 _ ?_ ?_ 1000 0 (σ, 0) (by omega) (by omega) ⟨rfl, FrP.rf, hL, fun a h => by rw [if_neg (by omega)]; exact hS a h⟩
    · intro j s hj hI
      obtain ⟨t, x⟩ := s
      obtain ⟨e1, e2, e3, e4⟩ := hI
      have e1 : x = nI j := e1
      subst e1
      left
      dsimp only at e2 e3 e4 ⊢
      have pj := hP j hj
      rw [if_neg (lt8 hj), if_pos (nb hj (by decide)), nx (by omega), n_add1, e3 j hj, e4 j hj, if_neg (show ¬ (j < j ∧ P j = k) by omega)]
      by_cases hjl : P j = k
      · rw [if_pos (by rw [hjl])]
        refine ⟨_, rfl, rfl, fun K i k' h => ?_, fun a ha => ?_, fun a ha => ?_⟩
        · dsimp only
          rw [gi0 (by omega)]
          exact e2 K i k' h
        · dsimp only
          rw [gi_k (by decide)]; exact e3 a ha
        · dsimp only
          by_cases haj : a = j
          · subst haj
            rw [gi_same, if_pos (by omega), pk_mul]
          · rw [gi_i haj, e4 a ha]
            by_cases hlt : a < j ∧ P a = k
            · rw [if_pos hlt, if_pos (by omega)]
            · rw [if_neg hlt, if_neg (by omega)]
      · rw [if_neg (by rw [n_eq (by omega) (by omega)]; exact hjl)]
        refine ⟨_, rfl, rfl, e2, e3, fun a ha => ?_⟩
        dsimp only
        rw [e4 a ha]
        by_cases hlt : a < j ∧ P a = k
        · rw [if_pos hlt, if_pos (by omega)]
        · by_cases haj : a = j
          · subst haj
            rw [if_neg hlt, if_neg (by omega)]
          · rw [if_neg hlt, if_neg (by omega)]
    · intro s hI
      obtain ⟨t, x⟩ := s
      obtain ⟨e1, e2, e3, e4⟩ := hI
      have e1 : x = nI 8 := e1
      subst e1
      dsimp only at e2 e3 e4 ⊢
      rw [if_pos ge8]
      refine ⟨_, rfl, e2, e3, fun a ha => ?_⟩
      rw [e4 a ha]
      dsimp only
      by_cases h : P a = k
      · rw [if_pos ⟨ha, h⟩, if_pos h]
      · rw [if_neg (fun q => h q.2), if_neg h]
  rw [hr]
  exact ⟨_, rfl, h1, h2, h3⟩
/-- one edge's balance: refused, or joined -/
theorem C_bal_eq (hw : WG g) (hc : GC g pm pe σ) {n : Nat} (hn : n < ne g) (hcp : CP g n P) (hcs : CS g n P S) (hL : LC P σ) (hS : HC S σ) : (P (fr g n) = P (tt g n) ∧ ¬ rin g n * S (fr g n) = rout g n * S (tt g n) ∧ C_balance σ (pe n) = some (0, σ)) ∨ ∃ σ' P' S', C_balance σ (pe n) = some (1, σ') ∧ FrP σ σ' ∧ CP g (n + 1) P' ∧ CS g (n + 1) P' S' ∧ LC P' σ' ∧ HC S' σ' := by
  obtain ⟨c1, c2, c3, c4, -⟩ := hc.2.2.2.2 n hn
  obtain ⟨w1, w2, -, -, w5, w6, w7, w8, -⟩ := hw.2.2 n hn
  obtain ⟨f1, f2⟩ := hcs.1 _ w1
  obtain ⟨t1, t2⟩ := hcs.1 _ w2
  have pf := (hcp.1 _ w1).1
  have pt := (hcp.1 _ w2).1
  have f3 := p68 f2
  have t3 := p68 t2
  have hA2 : rin g n * S (fr g n) ≤ 6 * S (fr g n) := Nat.mul_le_mul_right _ w6
  have hB2 : rout g n * S (tt g n) ≤ 6 * S (tt g n) := Nat.mul_le_mul_right _ w8
  have hA : 0 < rin g n * S (fr g n) := Nat.mul_pos (by omega) (by omega)
  have hB : 0 < rout g n * S (tt g n) := Nat.mul_pos (by omega) (by omega)
  unfold C_balance
  rw [c1, c2, c3, c4, if_pos (nb w1 (by decide)), if_pos (nb w2 (by decide)), nx (by omega), nx (by omega), hL _ w1, hL _ w2, hS _ w1, hS _ w2, pk_mul, pk_mul]
  by_cases hp : P (fr g n) = P (tt g n)
  · rw [if_pos (by rw [hp])]
    by_cases hq : rin g n * S (fr g n) = rout g n * S (tt g n)
    · rw [if_pos (by rw [hq])]
      exact Or.inr ⟨σ, P, S, rfl, FrP.rf, hcp.same hp, hcs.same hq, hL, hS⟩
    · rw [if_neg (by rw [n_eq (by omega) (by omega)]; exact hq)]
      exact Or.inl ⟨hp, hq, rfl⟩
  · right
    rw [if_neg (by rw [n_eq (by omega) (by omega)]; exact hp)]
    have hG0 : 0 < Nat.gcd (rin g n * S (fr g n)) (rout g n * S (tt g n)) := Nat.gcd_pos_of_pos_left _ hA
    have hGl := Nat.gcd_le_left (rout g n * S (tt g n)) hA
    rw [C_gd_eq (by omega) (by omega) hG0]
    simp only [Option.bind_some]
    rw [if_pos (nI_ne0 hG0 (by omega)), pk_div (by omega) hG0 (by omega), pk_div (by omega) hG0 (by omega)]
    obtain ⟨s1, a1, a2, a3, a4⟩ := C_scale_eq (u := rout g n * S (tt g n) / Nat.gcd (rin g n * S (fr g n)) (rout g n * S (tt g n))) (fun a ha => (hcp.1 a ha).1) hL hS pf
    rw [a1]
    simp only [Option.bind_some]
    rw [a3 _ w2]
    obtain ⟨s2, b1, b2, b3, b4⟩ := C_scale_eq (u := rin g n * S (fr g n) / Nat.gcd (rin g n * S (fr g n)) (rout g n * S (tt g n))) (fun a ha => (hcp.1 a ha).1) a3 a4 pt
    rw [b1]
    simp only [Option.bind_some]
    rw [b3 _ w1, b3 _ w2]
    obtain ⟨s3, d1, d2, d3, d4⟩ := C_join_eq (fun a ha => (hcp.1 a ha).1) b3 b4 pf pt
    rw [d1]
    refine ⟨s3, _, _, rfl, (a2.tr b2).tr d2, hcp.join w1 w2 hp, CS.join hcp hcs w1 w2 ⟨w5, w6⟩ ⟨w7, w8⟩ hp rfl rfl rfl, d3, fun a ha => ?_⟩
    rw [d4 a ha]
    unfold scl
    dsimp only
    by_cases e1 : P a = P (tt g n)
    · rw [if_pos e1, if_pos e1, if_neg (fun h => hp (h.symm.trans e1))]
    · rw [if_neg e1, if_neg e1]
theorem C_fc_eq (hw : WG g) (hc : GC g pm pe σ) : ∃ r σ', C_findCulprit σ = some (r, σ') ∧ FrP σ σ' ∧ ((∃ n P S, n < ne g ∧ r = nI n ∧ CP g n P ∧ CS g n P S ∧ P (fr g n) = P (tt g n) ∧ ¬ rin g n * S (fr g n) = rout g n * S (tt g n)) ∨ (r = -1 ∧ ∃ P S, CP g (ne g) P ∧ CS g (ne g) P S ∧ HC S σ')) := by
  have h12 := hw.1
  unfold C_findCulprit
  obtain ⟨b1, hb, bf, bL, bS⟩ := C_mk_eq σ
  rw [hb]
  simp only [Option.bind_some]
  obtain ⟨r, hr, hp⟩ : ∃ r : (ST × Int32) ⊕ (Int32 × ST), lp (fun s1 : ST × Int32 =>
  if (gi s1.1 0 0 5) ≤ s1.2 then
  (some (.inr (.inl ((s1.1, s1.2))))) else
  (if inb s1.2 12 then 
  (if ix (gi s1.1 5 0 (ix s1.2)) < 12 then 
  ((C_balance s1.1 (ix (gi s1.1 5 0 (ix s1.2)))).bind (fun b2 => 
  (if b2.1 = 0 then
  (some (.inr (.inr ((s1.2, b2.2))))) else
  (some (.inl ((b2.2, s1.2 + 1))))))) else none) else none)) 1000 ((b1, 0)) = some r ∧ (match r with
    | .inl (s, _) => FrP σ s ∧ ∃ P S, CP g (ne g) P ∧ CS g (ne g) P S ∧ HC S s
    | .inr (x, s) => FrP σ s ∧ ∃ n P S, n < ne g ∧ x = nI n ∧ CP g n P ∧ CS g n P S ∧ P (fr g n) = P (tt g n) ∧ ¬ rin g n * S (fr g n) = rout g n * S (tt g n)) := by
    refine lp_cnt (fun j s => s.2 = nI j ∧ FrP σ s.1 ∧ ∃ P S, CP g j P ∧ CS g j P S ∧ LC P s.1 ∧ HC S s.1) (ne g) _ ?_ ?_ 1000 0 (b1, 0) (by omega) (by omega) ⟨rfl, bf, _, _, CP.zero g, CS.zero g, bL, bS⟩
    · intro j s hj hI
      obtain ⟨t, x⟩ := s
      obtain ⟨e1, e2, P, S, e3, e4, e5, e6⟩ := hI
      have e1 : x = nI j := e1
      subst e1
      dsimp only at e2 e5 e6 ⊢
      have hc2 := hc.fp e2
      obtain ⟨q1, q2⟩ := hc2.2.2.1 j (by omega)
      rw [hc2.1, if_neg (by rw [n_le (by omega) (by omega)]; omega), if_pos (nb (by omega) (by decide)), nx (by omega), q1, nx (by omega), if_pos q2]
      rcases C_bal_eq hw hc2 hj e3 e4 e5 e6 with ⟨z1, z2, z3⟩ | ⟨σ', P', S', z1, z2, z3, z4, z5, z6⟩
      · right
        rw [z3]
        exact ⟨_, rfl, e2, j, P, S, hj, rfl, e3, e4, z1, z2⟩
      · left
        rw [z1, n_add1]
        exact ⟨_, rfl, rfl, e2.tr z2, P', S', z3, z4, z5, z6⟩
    · intro s hI
      obtain ⟨t, x⟩ := s
      obtain ⟨e1, e2, P, S, e3, e4, e5, e6⟩ := hI
      have e1 : x = nI (ne g) := e1
      subst e1
      dsimp only at e2 e5 e6 ⊢
      rw [(hc.fp e2).1, if_pos (by rw [n_le (by omega) (by omega)]; omega)]
      exact ⟨_, rfl, e2, P, S, e3, e4, e6⟩
  rw [hr]
  rcases r with ⟨s, y⟩ | ⟨x, s⟩
  · exact ⟨-1, s, rfl, hp.1, Or.inr ⟨rfl, hp.2⟩⟩
  · exact ⟨x, s, rfl, hp.1, Or.inl hp.2⟩
/-- how many there are that bear their own label -/
def nr (g : GD) (P : Nat → Nat) : Nat := sm (fun a => if th g a = 1 ∧ P a = a then 1 else 0) 8
theorem nr_jn {n : Nat} (hcp : CP g n P) (hf : fr g n < 8) (ht : tt g n < 8) (hth : ∀ e, e ≤ n → th g (fr g e) = 1 ∧ th g (tt g e) = 1) (hp : ¬ P (fr g n) = P (tt g n)) : nr g (jn P (P (fr g n)) (P (tt g n))) + 1 = nr g P := by
  have pt := (hcp.1 _ ht)
  have pf := (hcp.1 _ hf)
  have h1 : th g (P (tt g n)) = 1 := by
    rw [← hcp.2.2 (fun a => th g a) (fun e he => by rw [(hth e (by omega)).1, (hth e (by omega)).2]) _ ht]
    exact (hth n (by omega)).2
  have := sm_at (f := fun a => if th g a = 1 ∧ P a = a then 1 else 0) (f' := fun a => if th g a = 1 ∧ jn P (P (fr g n)) (P (tt g n)) a = a then 1 else 0) (t := P (tt g n)) 8 pt.1 (fun a ha hne => by
    unfold jn
    by_cases e1 : P a = P (tt g n)
    · rw [if_pos e1, if_neg (fun h => by
        have := h.2
        rw [this] at pf
        rw [e1] at pf
        exact hp (this.trans pf.2.symm)), if_neg (fun h => hne (h.2.symm.trans e1))]
    · rw [if_neg e1])
  simp only [h1, pt.2, and_self, if_true] at this
  have e2 : (if True ∧ jn P (P (fr g n)) (P (tt g n)) (P (tt g n)) = P (tt g n) then 1 else 0) = 0 := by
    rw [if_neg]
    intro h
    have := h.2
    unfold jn at this
    rw [if_pos pt.2] at this
    exact hp this
  rw [e2] at this
  unfold nr
  omega
theorem C_cp_eq (hw : WG g) (hc : GC g pm pe σ) : ∃ P σ', C_countParts σ = some (nI (nr g P), σ') ∧ FrP σ σ' ∧ CP g (ne g) P := by
  have h12 := hw.1
  unfold C_countParts
  obtain ⟨b1, hb, bf, bL, bS⟩ := C_mk_eq σ
  rw [hb]
  simp only [Option.bind_some]
  rw [C_countActors_eq hw (hc.fp bf)]
  simp only [Option.bind_some]
  obtain ⟨r, hr, r1, P, r2, r3⟩ : ∃ r : ST × Int32 × Int32, lp (fun s1 : ST × Int32 × Int32 =>
  if (gi s1.1 0 0 5) ≤ s1.2.2 then
  (some (.inr ((s1.1, s1.2.1, s1.2.2)))) else
  (if inb s1.2.2 12 then 
  (if ix (gi s1.1 5 0 (ix s1.2.2)) < 12 then 
  (if inb (gi s1.1 2 (ix (gi s1.1 5 0 (ix s1.2.2))) 1) 8 then 
  (if inb (gi s1.1 2 (ix (gi s1.1 5 0 (ix s1.2.2))) 2) 8 then 
  (if (gi s1.1 1 (ix (gi s1.1 2 (ix (gi s1.1 5 0 (ix s1.2.2))) 1)) 3) = (gi s1.1 1 (ix (gi s1.1 2 (ix (gi s1.1 5 0 (ix s1.2.2))) 2)) 3) then
  (some (.inl ((s1.1, s1.2.1, s1.2.2 + 1)))) else
  ((C_joinParts s1.1 (gi s1.1 1 (ix (gi s1.1 2 (ix (gi s1.1 5 0 (ix s1.2.2))) 1)) 3) (gi s1.1 1 (ix (gi s1.1 2 (ix (gi s1.1 5 0 (ix s1.2.2))) 2)) 3)).bind (fun b3 => 
  (some (.inl ((b3, s1.2.1 + -1, s1.2.2 + 1))))))) else none) else none) else none) else none)) 1000 ((b1, nI (sm (th g) 8), 0)) = some r ∧ FrP σ r.1 ∧ ∃ P, CP g (ne g) P ∧ r.2.1 = nI (nr g P) := by
    refine lp_cnt (fun j s => s.2.2 = nI j ∧ FrP σ s.1 ∧ ∃ P S, CP g j P ∧ s.2.1 = nI (nr g P) ∧ LC P s.1 ∧ HC S s.1) (ne g) _ ?_ ?_ 1000 0 (b1, nI (sm (th g) 8), 0) (by omega) (by omega) ⟨rfl, bf, _, _, CP.zero g, ?_, bL, bS⟩
    · intro j s hj hI
      obtain ⟨t, y, x⟩ := s
      obtain ⟨e1, e2, P, S, e3, e4, e5, e6⟩ := hI
      have e1 : x = nI j := e1
      have e4 : y = nI (nr g P) := e4
      subst e1 e4
      left
      dsimp only at e2 e5 e6 ⊢
      have hc2 := hc.fp e2
      obtain ⟨q1, q2⟩ := hc2.2.2.1 j (by omega)
      obtain ⟨c1, c2, -⟩ := hc2.2.2.2.2 j hj
      obtain ⟨w1, w2, -⟩ := hw.2.2 j hj
      have pf := (e3.1 _ w1).1
      have pt := (e3.1 _ w2).1
      rw [hc2.1, if_neg (by rw [n_le (by omega) (by omega)]; omega), if_pos (nb (by omega) (by decide)), nx (by omega), q1, nx (by omega), if_pos q2, c1, c2, if_pos (nb w1 (by decide)), if_pos (nb w2 (by decide)), nx (by omega), nx (by omega), e5 _ w1, e5 _ w2, n_add1]
      by_cases hp : P (fr g j) = P (tt g j)
      · rw [if_pos (by rw [hp])]
        exact ⟨_, rfl, rfl, e2, P, S, e3.same hp, rfl, e5, e6⟩
      · rw [if_neg (by rw [n_eq (by omega) (by omega)]; exact hp)]
        obtain ⟨s3, d1, d2, d3, d4⟩ := C_join_eq (fun a ha => (e3.1 a ha).1) e5 e6 pf pt
        rw [d1]
        refine ⟨_, rfl, rfl, e2.tr d2, _, S, e3.join w1 w2 hp, ?_, d3, d4⟩
        dsimp only
        rw [← nr_jn e3 w1 w2 (fun e he => ⟨(hw.2.2 e (by omega)).2.2.1, (hw.2.2 e (by omega)).2.2.2.1⟩) hp, pk_m1]
    · intro s hI
      obtain ⟨t, y, x⟩ := s
      obtain ⟨e1, e2, P, S, e3, e4, e5, e6⟩ := hI
      have e1 : x = nI (ne g) := e1
      subst e1
      dsimp only at e2 e4 ⊢
      rw [(hc.fp e2).1, if_pos (by rw [n_le (by omega) (by omega)]; omega)]
      exact ⟨_, rfl, e2, P, e3, e4⟩
    · dsimp only
      unfold nr
      congr 1
      refine (sm_cg 8 (fun a ha => ?_)).symm
      have := (hw.2.1 a ha).1
      by_cases h : th g a = 1
      · rw [if_pos ⟨h, rfl⟩, h]
      · rw [if_neg (fun q => h q.1)]; omega
  rw [hr]
  obtain ⟨t, y, x⟩ := r
  have r3 : y = nI (nr g P) := r3
  subst r3
  exact ⟨P, t, rfl, r1, r2⟩
end BC
