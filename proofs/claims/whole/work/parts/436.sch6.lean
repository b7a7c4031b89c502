/-! PURE: solve: its other loops -/
section S6
variable {g : GD} {pm : Nat → Int32} {pe S R : Nat → Nat} {σ ρ : ST}
theorem C_kr_eq (hw : WG g) (hc : GC g pm pe σ) (hS : HC S σ) : ∃ σ', C_keepRepetitions σ = some (nI (tot g S), σ') ∧ (∀ K i k, ¬ (K = 1 ∧ k = 5) → gi σ' K i k = gi σ K i k) ∧ ∀ a, a < 8 → gi σ' 1 a 5 = nI (if th g a = 1 then S a else 0) := by
  unfold C_keepRepetitions
  obtain ⟨⟨r1, r2, r3⟩, hr, h1, h2, h3⟩ : ∃ r : ST × Int32 × Int32, lp (fun s1 : ST × Int32 × Int32 =>
  if 8 ≤ s1.2.2 then
  (some (.inr ((s1.1, s1.2.1, s1.2.2)))) else
  (if inb s1.2.2 8 then 
  (if (gi s1.1 1 (ix s1.2.2) 0) = 0 then
  (some (.inl ((su s1.1 1 (ix s1.2.2) 5 0, s1.2.1 + 0, s1.2.2 + 1)))) else
  (some (.inl ((su s1.1 1 (ix s1.2.2) 5 (gi s1.1 1 (ix s1.2.2) 4), s1.2.1 + (gi s1.1 1 (ix s1.2.2) 4), s1.2.2 + 1))))) else none)) 1000 ((σ, 0, 0)) = some r ∧ (∀ K i k, ¬ (K = 1 ∧ k = 5) → gi r.1 K i k = gi σ K i k) ∧ (∀ a, a < 8 → gi r.1 1 a 5 = nI (if th g a = 1 then S a else 0)) ∧ r.2.1 = nI (tot g S) := by
    refine lp_cnt (fun j s => s.2.2 = nI j ∧ (∀ K i k, ¬ (K = 1 ∧ k = 5) → gi s.1 K i k = gi σ K i k) ∧ (∀ a, a < j → gi s.1 1 a 5 = nI (if th g a = 1 then S a else 0)) ∧ s.2.1 = nI (sm (fun a => if th g a = 1 then S a else 0) j)) 8 _ ?_ ?_ 1000 0 (σ, 0, 0) (by omega) (by omega) ⟨rfl, fun _ _ _ _ => rfl, fun a h => by omega, rfl⟩
    · intro j s hj hI
      obtain ⟨t, y, x⟩ := s
      obtain ⟨e1, e2, e3, e4⟩ := hI
      have e1 : x = nI j := e1
      have e4 : y = nI (sm (fun a => if th g a = 1 then S a else 0) j) := e4
      subst e1 e4
      left
      dsimp only at e2 e3 ⊢
      have w1 := (hw.2.1 j hj).1
      rw [if_neg (lt8 hj), if_pos (nb hj (by decide)), nx (by omega), e2 1 j 0 (by omega), (hc.2.1 j hj).1, e2 1 j 4 (by omega), hS j hj, n_add1]
      by_cases ht : th g j = 1
      · rw [if_neg (by rw [ht]; decide)]
        refine ⟨_, rfl, rfl, fun K i k h => ?_, fun a ha => ?_, ?_⟩
        · dsimp only; rw [gi0 (by omega)]; exact e2 K i k h
        · dsimp only
          by_cases haj : a = j
          · subst haj; rw [gi_same, if_pos ht]
          · rw [gi_i haj]; exact e3 a (by omega)
        · dsimp only
          rw [nI_add]
          show _ = nI (sm _ j + (if th g j = 1 then S j else 0))
          rw [if_pos ht]
      · rw [if_pos (by rw [show th g j = 0 by omega]; rfl)]
        refine ⟨_, rfl, rfl, fun K i k h => ?_, fun a ha => ?_, ?_⟩
        · dsimp only; rw [gi0 (by omega)]; exact e2 K i k h
        · dsimp only
          by_cases haj : a = j
          · subst haj; rw [gi_same, if_neg ht]; rfl
          · rw [gi_i haj]; exact e3 a (by omega)
        · dsimp only
          show _ = nI (sm _ j + (if th g j = 1 then S j else 0))
          rw [if_neg ht, Int32.add_zero]
          rfl
    · intro s hI
      obtain ⟨t, y, x⟩ := s
      obtain ⟨e1, e2, e3, e4⟩ := hI
      have e1 : x = nI 8 := e1
      subst e1
      dsimp only at e2 e3 e4 ⊢
      rw [if_pos ge8]
      exact ⟨_, rfl, e2, fun a ha => e3 a ha, e4⟩
  have h3 : r2 = nI (tot g S) := h3
  subst h3
  rw [hr]
  exact ⟨r1, rfl, h1, h2⟩
abbrev c1b : ST × Int32 → Option ((ST × Int32) ⊕ (ST × Int32)) := fun s1 : ST × Int32 =>
  if 8 ≤ s1.2 then
  (some (.inr ((s1.1, s1.2)))) else
  (if inb s1.2 8 then 
  (some (.inl ((su s1.1 1 (ix s1.2) 6 0, s1.2 + 1)))) else none)
abbrev c2b : ST × Int32 → Option ((ST × Int32) ⊕ (ST × Int32)) := fun s2 : ST × Int32 =>
  if (gi s2.1 0 0 5) ≤ s2.2 then
  (some (.inr ((s2.1, s2.2)))) else
  (if inb s2.2 12 then 
  (if ix (gi s2.1 5 0 (ix s2.2)) < 12 then 
  (some (.inl ((su (su s2.1 2 (ix (gi s2.1 5 0 (ix s2.2))) 7 (gi s2.1 2 (ix (gi s2.1 5 0 (ix s2.2))) 5)) 2 (ix (gi s2.1 5 0 (ix s2.2))) 8 (gi s2.1 2 (ix (gi s2.1 5 0 (ix s2.2))) 5), s2.2 + 1)))) else none) else none)
theorem C_makeSchedule_def (σ : ST) (x1 : Int32) : C_makeSchedule σ x1 = (lp c1b 1000 (σ, 0)).bind (fun r1 : ST × Int32 => (lp c2b 1000 (r1.1, 0)).bind (fun r2 : ST × Int32 => (lp (cb x1) 1000 (r2.1, 0, 0)).bind (fun r3 : (ST × Int32 × Int32) ⊕ (Int32 × ST) => Sum.elim (fun o1 : ST × Int32 × Int32 => (some ((-1, o1.1)))) (fun v1 : Int32 × ST => some v1) r3))) := rfl
theorem C_init (hw : WG g) (hc : GC g pm pe σ) : ∃ r1 r2 : ST × Int32, lp c1b 1000 (σ, 0) = some r1 ∧ lp c2b 1000 (r1.1, 0) = some r2 ∧ FrS σ r2.1 ∧ (∀ a, a < 8 → gi r2.1 1 a 6 = nI 0) ∧ ∀ e, e < ne g → gi r2.1 2 (pe e) 7 = nI (dl g e) ∧ gi r2.1 2 (pe e) 8 = nI (dl g e) := by
  have h12 := hw.1
  obtain ⟨r1, hr1, f1, g1⟩ : ∃ r : ST × Int32, lp c1b 1000 (σ, 0) = some r ∧ (∀ K i k, ¬ (K = 1 ∧ k = 6) → gi r.1 K i k = gi σ K i k) ∧ ∀ a, a < 8 → gi r.1 1 a 6 = nI 0 := by
    refine lp_cnt (fun j s => s.2 = nI j ∧ (∀ K i k, ¬ (K = 1 ∧ k = 6) → gi s.1 K i k = gi σ K i k) ∧ ∀ a, a < j → gi s.1 1 a 6 = nI 0) 8 _ ?_ ?_ 1000 0 (σ, 0) (by omega) (by omega) ⟨rfl, fun _ _ _ _ => rfl, fun a h => by omega⟩
    · intro j s hj hI
      obtain ⟨t, x⟩ := s
      obtain ⟨e1, e2, e3⟩ := hI
      have e1 : x = nI j := e1
      subst e1
      left
      dsimp only at e2 e3
      unfold c1b
      dsimp only
      rw [if_neg (lt8 hj), if_pos (nb hj (by decide)), nx (by omega), n_add1]
      refine ⟨_, rfl, rfl, fun K i k h => ?_, fun a ha => ?_⟩
      · dsimp only; rw [gi0 (by omega)]; exact e2 K i k h
      · dsimp only
        by_cases haj : a = j
        · subst haj; rw [gi_same]; rfl
        · rw [gi_i haj]; exact e3 a (by omega)
    · intro s hI
      obtain ⟨t, x⟩ := s
      obtain ⟨e1, e2, e3⟩ := hI
      have e1 : x = nI 8 := e1
      subst e1
      refine ⟨(t, nI 8), ?_, e2, fun a ha => e3 a ha⟩
      unfold c1b
      dsimp only
      rw [if_pos ge8]
  have hc1 : GC g pm pe r1.1 := hc.cg (fun K i k h => f1 K i k (by omega))
  obtain ⟨r2, hr2, f2, g2⟩ : ∃ r : ST × Int32, lp c2b 1000 (r1.1, 0) = some r ∧ FrH r1.1 r.1 ∧ ∀ e, e < ne g → gi r.1 2 (pe e) 7 = nI (dl g e) ∧ gi r.1 2 (pe e) 8 = nI (dl g e) := by
    refine lp_cnt (fun j s => s.2 = nI j ∧ FrH r1.1 s.1 ∧ ∀ e, e < j → gi s.1 2 (pe e) 7 = nI (dl g e) ∧ gi s.1 2 (pe e) 8 = nI (dl g e)) (ne g) _ ?_ ?_ 1000 0 (r1.1, 0) (by omega) (by omega) ⟨rfl, fun _ _ _ _ => rfl, fun a h => by omega⟩
    · intro j s hj hI
      obtain ⟨t, x⟩ := s
      obtain ⟨e1, e2, e3⟩ := hI
      have e1 : x = nI j := e1
      subst e1
      left
      dsimp only at e2 e3
      have hc2 := hc1.fh e2
      obtain ⟨q1, q2⟩ := hc2.2.2.1 j (by omega)
      obtain ⟨-, -, -, -, c5⟩ := hc2.2.2.2.2 j hj
      unfold c2b
      dsimp only
      rw [hc2.1, if_neg (by rw [n_le (by omega) (by omega)]; omega), if_pos (nb (by omega) (by decide)), nx (by omega), q1, nx (by omega), if_pos q2, c5, n_add1]
      refine ⟨_, rfl, rfl, fun K i k h => ?_, fun e he => ?_⟩
      · dsimp only; rw [gi0 (by omega), gi0 (by omega)]; exact e2 K i k h
      · dsimp only
        by_cases hej : e = j
        · subst hej
          rw [gi_k (by decide), gi_same, gi_same]
          exact ⟨rfl, rfl⟩
        · have hpe : ¬ pe e = pe j := fun h => hej (hc.2.2.2.1 e j (by omega) (by omega) h)
          rw [gi_i hpe, gi_i hpe, gi_i hpe, gi_i hpe]
          exact e3 e (by omega)
    · intro s hI
      obtain ⟨t, x⟩ := s
      obtain ⟨e1, e2, e3⟩ := hI
      have e1 : x = nI (ne g) := e1
      subst e1
      refine ⟨(t, nI (ne g)), ?_, e2, fun e he => e3 e he⟩
      unfold c2b
      dsimp only
      rw [(hc1.fh e2).1, if_pos (by rw [n_le (by omega) (by omega)]; omega)]
  exact ⟨r1, r2, hr1, hr2, fun K i k h1 h2 h3 => (f2 K i k h1).trans (f1 K i k h2), fun a ha => by rw [f2 1 a 6 (by omega)]; exact g1 a ha, g2⟩
theorem C_saf_eq (hw : WG g) (hc : GC g pm pe σ) {e : Nat} (he : e < ne g) : ∃ σ', C_Edge_setAsAtFirst σ (pe e) = some σ' ∧ (∀ K i k, ¬ (K = 3 ∧ i = pe e) → ¬ (K = 2 ∧ i = pe e ∧ (k = 6 ∨ k = 7)) → gi σ' K i k = gi σ K i k) ∧ gi σ' 2 (pe e) 6 = nI 0 ∧ gi σ' 2 (pe e) 7 = nI (dl g e) ∧ ∀ i, i < dl g e → gi σ' 3 (pe e) i = 0 := by
  obtain ⟨-, -, -, -, c5⟩ := hc.2.2.2.2 e he
  obtain ⟨-, -, -, -, -, -, -, -, w9⟩ := hw.2.2 e he
  unfold C_Edge_setAsAtFirst
  obtain ⟨⟨r1, r2⟩, hr, f1, f2⟩ : ∃ r : ST × Int32, lp (fun s1 : ST × Int32 =>
  if (gi s1.1 2 (pe e) 5) ≤ s1.2 then
  (some (.inr ((s1.1, s1.2)))) else
  (if inb (s1.2 &&& 255) 256 then 
  (some (.inl ((su s1.1 3 (pe e) (ix (s1.2 &&& 255)) 0, s1.2 + 1)))) else none)) 1000 ((σ, 0)) = some r ∧ (∀ K i k, ¬ (K = 3 ∧ i = pe e) → gi r.1 K i k = gi σ K i k) ∧ ∀ i, i < dl g e → gi r.1 3 (pe e) i = 0 := by
    refine lp_cnt (fun j s => s.2 = nI j ∧ (∀ K i k, ¬ (K = 3 ∧ i = pe e) → gi s.1 K i k = gi σ K i k) ∧ ∀ i, i < j → gi s.1 3 (pe e) i = 0) (dl g e) _ ?_ ?_ 1000 0 (σ, 0) (by omega) (by omega) ⟨rfl, fun _ _ _ _ => rfl, fun a h => by omega⟩
    · intro j s hj hI
      obtain ⟨t, x⟩ := s
      obtain ⟨e1, e2, e3⟩ := hI
      have e1 : x = nI j := e1
      subst e1
      left
      dsimp only at e2 e3 ⊢
      rw [e2 2 _ 5 (by omega), c5, if_neg (by rw [n_le (by omega) (by omega)]; omega), n_and255 (by omega), if_pos (nb (by omega) (by decide)), nx (by omega), n_add1]
      refine ⟨_, rfl, rfl, fun K i k h => ?_, fun i hi => ?_⟩
      · dsimp only; rw [gi0 (by omega)]; exact e2 K i k h
      · dsimp only
        by_cases hij : i = j
        · subst hij
          rw [show i % 256 = i by omega, gi_same]
        · rw [gi_k (by omega)]; exact e3 i (by omega)
    · intro s hI
      obtain ⟨t, x⟩ := s
      obtain ⟨e1, e2, e3⟩ := hI
      have e1 : x = nI (dl g e) := e1
      subst e1
      dsimp only at e2 e3 ⊢
      rw [e2 2 _ 5 (by omega), c5, if_pos (by rw [n_le (by omega) (by omega)]; omega)]
      exact ⟨_, rfl, e2, e3⟩
  rw [hr]
  dsimp only at f1 f2
  refine ⟨_, rfl, fun K i k h1 h2 => ?_, ?_, ?_, fun i hi => ?_⟩
  · dsimp only; rw [gi0 (by omega), gi0 (by omega)]; exact f1 K i k h1
  · dsimp only; rw [gi_k (by decide), gi_same]; rfl
  · dsimp only; rw [gi_same, f1 2 _ 5 (by omega), c5]
  · dsimp only; rw [gi_K (by decide), gi_K (by decide)]; exact f2 i hi
theorem C_set_eq (hw : WG g) (hc : GC g pm pe σ) : ∃ σ', C_setRunAsAtFirst σ = some σ' ∧ (∀ K i k, K ≠ 3 → ¬ (K = 2 ∧ (k = 6 ∨ k = 7)) → ¬ (K = 1 ∧ 7 ≤ k) → ¬ (K = 0 ∧ k = 7) → gi σ' K i k = gi σ K i k) ∧ (∀ a, a < 8 → gi σ' 1 a 9 = 0 ∧ gi σ' 1 a 7 = 0 ∧ gi σ' 1 a 8 = 0) ∧ (∀ e, e < ne g → gi σ' 2 (pe e) 6 = nI 0 ∧ gi σ' 2 (pe e) 7 = nI (dl g e) ∧ ∀ i, i < dl g e → gi σ' 3 (pe e) i = 0) ∧ gi σ' 0 0 7 = 0 := by
  have h12 := hw.1
  unfold C_setRunAsAtFirst
  obtain ⟨⟨r1, x1⟩, hr1, f1, g1⟩ : ∃ r : ST × Int32, lp (fun s1 : ST × Int32 =>
  if 8 ≤ s1.2 then
  (some (.inr ((s1.1, s1.2)))) else
  (if inb s1.2 8 then 
  ((C_Actor_forgetRun s1.1 (ix s1.2)).bind (fun b1 => 
  (some (.inl ((b1, s1.2 + 1)))))) else none)) 1000 ((σ, 0)) = some r ∧ (∀ K i k, ¬ (K = 1 ∧ 7 ≤ k) → gi r.1 K i k = gi σ K i k) ∧ ∀ a, a < 8 → gi r.1 1 a 9 = 0 ∧ gi r.1 1 a 7 = 0 ∧ gi r.1 1 a 8 = 0 := by
    refine lp_cnt (fun j s => s.2 = nI j ∧ (∀ K i k, ¬ (K = 1 ∧ 7 ≤ k) → gi s.1 K i k = gi σ K i k) ∧ ∀ a, a < j → gi s.1 1 a 9 = 0 ∧ gi s.1 1 a 7 = 0 ∧ gi s.1 1 a 8 = 0) 8 _ ?_ ?_ 1000 0 (σ, 0) (by omega) (by omega) ⟨rfl, fun _ _ _ _ => rfl, fun a h => by omega⟩
    · intro j s hj hI
      obtain ⟨t, x⟩ := s
      obtain ⟨e1, e2, e3⟩ := hI
      have e1 : x = nI j := e1
      subst e1
      left
      dsimp only at e2 e3 ⊢
      rw [if_neg (lt8 hj), if_pos (nb hj (by decide)), nx (by omega), n_add1]
      unfold C_Actor_forgetRun
      simp only [Option.bind_some]
      refine ⟨_, rfl, rfl, fun K i k h => ?_, fun a ha => ?_⟩
      · dsimp only; rw [gi0 (by omega), gi0 (by omega), gi0 (by omega)]; exact e2 K i k h
      · dsimp only
        by_cases haj : a = j
        · subst haj
          refine ⟨gi_same, ?_, ?_⟩
          · rw [gi_k (by decide), gi_k (by decide), gi_same]
          · rw [gi_k (by decide), gi_same]
        · rw [gi_i haj, gi_i haj, gi_i haj, gi_i haj, gi_i haj, gi_i haj, gi_i haj, gi_i haj, gi_i haj]; exact e3 a (by omega)
    · intro s hI
      obtain ⟨t, x⟩ := s
      obtain ⟨e1, e2, e3⟩ := hI
      have e1 : x = nI 8 := e1
      subst e1
      dsimp only at e2 e3 ⊢
      rw [if_pos ge8]
      exact ⟨_, rfl, e2, fun a ha => e3 a ha⟩
  rw [hr1]
  simp only [Option.bind_some]
  dsimp only at f1 g1
  have hc1 : GC g pm pe r1 := hc.cg (fun K i k h => f1 K i k (by omega))
  obtain ⟨⟨r2, x2⟩, hr2, f2, g2⟩ : ∃ r : ST × Int32, lp (fun s2 : ST × Int32 =>
  if (gi s2.1 0 0 5) ≤ s2.2 then
  (some (.inr ((s2.1, s2.2)))) else
  (if inb s2.2 12 then 
  (if ix (gi s2.1 5 0 (ix s2.2)) < 12 then 
  ((C_Edge_setAsAtFirst s2.1 (ix (gi s2.1 5 0 (ix s2.2)))).bind (fun b2 => 
  (some (.inl ((b2, s2.2 + 1)))))) else none) else none)) 1000 ((r1, 0)) = some r ∧ FrC r1 r.1 ∧ ∀ e, e < ne g → gi r.1 2 (pe e) 6 = nI 0 ∧ gi r.1 2 (pe e) 7 = nI (dl g e) ∧ ∀ i, i < dl g e → gi r.1 3 (pe e) i = 0 := by
    refine lp_cnt (fun j s => s.2 = nI j ∧ FrC r1 s.1 ∧ ∀ e, e < j → gi s.1 2 (pe e) 6 = nI 0 ∧ gi s.1 2 (pe e) 7 = nI (dl g e) ∧ ∀ i, i < dl g e → gi s.1 3 (pe e) i = 0) (ne g) _ ?_ ?_ 1000 0 (r1, 0) (by omega) (by omega) ⟨rfl, FrC.rf, fun a h => by omega⟩
    · intro j s hj hI
      obtain ⟨t, x⟩ := s
      obtain ⟨e1, e2, e3⟩ := hI
      have e1 : x = nI j := e1
      subst e1
      left
      dsimp only at e2 e3 ⊢
      have hc2 := hc1.fr e2
      obtain ⟨q1, q2⟩ := hc2.2.2.1 j (by omega)
      rw [hc2.1, if_neg (by rw [n_le (by omega) (by omega)]; omega), if_pos (nb (by omega) (by decide)), nx (by omega), q1, nx (by omega), if_pos q2, n_add1]
      obtain ⟨σ', z1, z2, z3, z4, z5⟩ := C_saf_eq hw hc2 hj
      rw [z1]
      refine ⟨_, rfl, rfl, fun K i k h1 h2 => ?_, fun e he => ?_⟩
      · dsimp only; rw [z2 K i k (by omega) (by omega)]; exact e2 K i k h1 h2
      · dsimp only
        by_cases hej : e = j
        · subst hej; exact ⟨z3, z4, z5⟩
        · have hpe : ¬ pe e = pe j := fun h => hej (hc.2.2.2.1 e j (by omega) (by omega) h)
          rw [z2 2 _ 6 (by omega) (by omega), z2 2 _ 7 (by omega) (by omega)]
          obtain ⟨y1, y2, y3⟩ := e3 e (by omega)
          exact ⟨y1, y2, fun i hi => by rw [z2 3 _ i (by omega) (by omega)]; exact y3 i hi⟩
    · intro s hI
      obtain ⟨t, x⟩ := s
      obtain ⟨e1, e2, e3⟩ := hI
      have e1 : x = nI (ne g) := e1
      subst e1
      dsimp only at e2 e3 ⊢
      rw [(hc1.fr e2).1, if_pos (by rw [n_le (by omega) (by omega)]; omega)]
      exact ⟨_, rfl, e2, fun e he => e3 e he⟩
  rw [hr2]
  dsimp only at f2 g2
  refine ⟨_, rfl, fun K i k h1 h2 h3 h4 => ?_, fun a ha => ?_, fun e he => ?_, gi_same⟩
  · dsimp only; rw [gi0 (by omega), f2 K i k h1 h2, f1 K i k h3]
  · dsimp only
    rw [gi_K (by decide), gi_K (by decide), gi_K (by decide), f2 1 a 9 (by decide) (by omega), f2 1 a 7 (by decide) (by omega), f2 1 a 8 (by decide) (by omega)]
    exact g1 a ha
  · dsimp only
    obtain ⟨y1, y2, y3⟩ := g2 e he
    exact ⟨by rw [gi_K (by decide)]; exact y1, by rw [gi_K (by decide)]; exact y2, fun i hi => by rw [gi_K (by decide)]; exact y3 i hi⟩
abbrev m3b : ST × Int32 → Option ((ST × Int32) ⊕ (ST × Int32)) := fun s3 : ST × Int32 =>
  if 8 ≤ s3.2 then
  (some (.inr ((s3.1, s3.2)))) else
  (if inb s3.2 8 then 
  (some (.inl ((su (su (su s3.1 24 0 (ix s3.2) 0) 23 0 (ix s3.2) 0) 15 0 (ix s3.2) 0, s3.2 + 1)))) else none)
abbrev m4b : ST × Int32 → Option ((ST × Int32) ⊕ (ST × Int32)) := fun s4 : ST × Int32 =>
  if (gi s4.1 0 0 8) ≤ s4.2 then
  (some (.inr ((s4.1, s4.2)))) else
  (if inb s4.2 13 then 
  (if inb s4.2 12 then 
  (some (.inl ((su (su s4.1 17 0 (ix s4.2) (gi s4.1 8 0 (ix s4.2))) 18 0 (ix s4.2) (gi s4.1 8 0 (ix s4.2)), s4.2 + 1)))) else none) else none)
abbrev m7b : ST × Int32 → Option ((ST × Int32) ⊕ (ST × Int32)) := fun s7 : ST × Int32 =>
  if (gi s7.1 0 0 8) ≤ s7.2 then
  (some (.inr ((s7.1, s7.2)))) else
  (if inb s7.2 13 then 
  (if inb s7.2 12 then 
  ((lp (fun s8 : ST × Int32 =>
  if (gi s8.1 8 0 (ix s7.2)) ≤ s8.2 then
  (some (.inr ((s8.1, s8.2)))) else
  (if inb ((s7.2 * 400) + s8.2) 4800 then 
  (some (.inl ((su s8.1 21 0 (ix ((s7.2 * 400) + s8.2)) 0, s8.2 + 1)))) else none)) 1000 ((su s7.1 22 0 (ix s7.2) (gi s7.1 8 0 (ix s7.2)), 0))).bind (fun r8 : ST × Int32 =>
  some (.inl ((r8.1, s7.2 + 1))))) else none) else none)
abbrev m2b : ST × Int32 → Option ((ST × Int32) ⊕ ((ST × Int32) ⊕ (Int32 × ST))) := fun s2 : ST × Int32 =>
  if (gi s2.1 0 0 8) < s2.2 then
  (some (.inr (.inl ((s2.1, s2.2))))) else
  ((M_balance s2.1 s2.2).bind (fun b1 => 
  (if b1.1 = 0 then
  (some (.inr (.inr (((-100) - (s2.2 - 1), b1.2))))) else
  (some (.inl ((b1.2, s2.2 + 1)))))))
theorem M_solve_def (σ : ST) (x1 : Int32) : M_solve σ x1 = if x1 < 0 then
  (some ((-1, σ))) else
  (if x1 ≤ 2 then
  ((lp (fun s1 : Int32 × Int32 =>
  if 8 ≤ s1.2 then
  (some (.inr ((s1.1, s1.2)))) else
  (if inb s1.2 8 then 
  (if (gi σ 1 0 (ix s1.2)) = 0 then
  (some (.inl ((s1.1, s1.2 + 1)))) else
  (some (.inl ((s1.1 + 1, s1.2 + 1))))) else none)) 1000 ((0, 0))).bind (fun r1 : Int32 × Int32 =>
  if r1.1 = 0 then
  (some ((-4, su σ 0 0 9 0))) else
  ((lp m2b 1000 ((su σ 0 0 9 0, 1))).bind (fun r2 : (ST × Int32) ⊕ (Int32 × ST) => Sum.elim (fun o1 : ST × Int32 =>
  ((M_balance o1.1 (gi o1.1 0 0 8)).bind (fun b2 => 
  ((M_repeat b2.2).bind (fun b3 => 
  (if b3.1 ≤ 64 then
  ((lp m3b 1000 ((b3.2, 0))).bind (fun r3 : ST × Int32 =>
  (lp m4b 1000 ((r3.1, 0))).bind (fun r4 : ST × Int32 =>
  (lp (sb b3.1 x1) 1000 ((su (su r4.1 0 0 19 0) 0 0 18 0, -1))).bind (fun r5 : (ST × Int32) ⊕ (Int32 × ST) => Sum.elim (fun o3 : ST × Int32 =>
  ((lp m7b 1000 ((o3.1, 0))).bind (fun r7 : ST × Int32 =>
  some ((b3.1, su r7.1 0 0 9 1))))) (fun v3 : Int32 × ST => some v3) r5)))) else
  (some ((-3, b3.2))))))))) (fun v1 : Int32 × ST => some v1) r2)))) else
  (some ((-1, σ)))) := rfl
theorem M_init (hw : WG g) (hm : GM g pm ρ) : ∃ r3 r4 : ST × Int32, lp m3b 1000 (ρ, 0) = some r3 ∧ lp m4b 1000 (r3.1, 0) = some r4 ∧ (∀ K i k, ¬ (K = 15 ∨ K = 17 ∨ K = 18 ∨ K = 23 ∨ K = 24) → gi r4.1 K i k = gi ρ K i k) ∧ (∀ a, a < 8 → gi r4.1 15 0 a = nI 0 ∧ gi r4.1 23 0 a = 0 ∧ gi r4.1 24 0 a = 0) ∧ ∀ e, e < ne g → gi r4.1 17 0 e = nI (dl g e) ∧ gi r4.1 18 0 e = nI (dl g e) := by
  have h12 := hw.1
  obtain ⟨r1, hr1, f1, g1⟩ : ∃ r : ST × Int32, lp m3b 1000 (ρ, 0) = some r ∧ (∀ K i k, ¬ (K = 15 ∨ K = 23 ∨ K = 24) → gi r.1 K i k = gi ρ K i k) ∧ ∀ a, a < 8 → gi r.1 15 0 a = nI 0 ∧ gi r.1 23 0 a = 0 ∧ gi r.1 24 0 a = 0 := by
    refine lp_cnt (fun j s => s.2 = nI j ∧ (∀ K i k, ¬ (K = 15 ∨ K = 23 ∨ K = 24) → gi s.1 K i k = gi ρ K i k) ∧ ∀ a, a < j → gi s.1 15 0 a = nI 0 ∧ gi s.1 23 0 a = 0 ∧ gi s.1 24 0 a = 0) 8 _ ?_ ?_ 1000 0 (ρ, 0) (by omega) (by omega) ⟨rfl, fun _ _ _ _ => rfl, fun a h => by omega⟩
    · intro j s hj hI
      obtain ⟨t, x⟩ := s
      obtain ⟨e1, e2, e3⟩ := hI
      have e1 : x = nI j := e1
      subst e1
      left
      dsimp only at e2 e3
      unfold m3b
      dsimp only
      rw [if_neg (lt8 hj), if_pos (nb hj (by decide)), nx (by omega), n_add1]
      refine ⟨_, rfl, rfl, fun K i k h => ?_, fun a ha => ?_⟩
      · dsimp only; rw [gi_K (by omega), gi_K (by omega), gi_K (by omega)]; exact e2 K i k h
      · dsimp only
        by_cases haj : a = j
        · subst haj
          refine ⟨gi_same, ?_, ?_⟩
          · rw [gi_K (by decide), gi_same]
          · rw [gi_K (by decide), gi_K (by decide), gi_same]
        · rw [gi_k haj, gi_k haj, gi_k haj, gi_k haj, gi_k haj, gi_k haj, gi_k haj, gi_k haj, gi_k haj]; exact e3 a (by omega)
    · intro s hI
      obtain ⟨t, x⟩ := s
      obtain ⟨e1, e2, e3⟩ := hI
      have e1 : x = nI 8 := e1
      subst e1
      refine ⟨(t, nI 8), ?_, e2, fun a ha => e3 a ha⟩
      unfold m3b
      dsimp only
      rw [if_pos ge8]
  have hm1 : GM g pm r1.1 := hm.cg (fun K i k h => f1 K i k (by omega))
  obtain ⟨r2, hr2, f2, g2⟩ : ∃ r : ST × Int32, lp m4b 1000 (r1.1, 0) = some r ∧ (∀ K i k, ¬ (K = 17 ∨ K = 18) → gi r.1 K i k = gi r1.1 K i k) ∧ ∀ e, e < ne g → gi r.1 17 0 e = nI (dl g e) ∧ gi r.1 18 0 e = nI (dl g e) := by
    refine lp_cnt (fun j s => s.2 = nI j ∧ (∀ K i k, ¬ (K = 17 ∨ K = 18) → gi s.1 K i k = gi r1.1 K i k) ∧ ∀ e, e < j → gi s.1 17 0 e = nI (dl g e) ∧ gi s.1 18 0 e = nI (dl g e)) (ne g) _ ?_ ?_ 1000 0 (r1.1, 0) (by omega) (by omega) ⟨rfl, fun _ _ _ _ => rfl, fun a h => by omega⟩
    · intro j s hj hI
      obtain ⟨t, x⟩ := s
      obtain ⟨e1, e2, e3⟩ := hI
      have e1 : x = nI j := e1
      subst e1
      left
      dsimp only at e2 e3
      obtain ⟨-, -, -, -, c5⟩ := hm1.2.2 j hj
      unfold m4b
      dsimp only
      rw [e2 0 0 8 (by omega), hm1.1, if_neg (by rw [n_le (by omega) (by omega)]; omega), if_pos (nb (by omega) (by decide)), if_pos (nb (by omega) (by decide)), nx (by omega), e2 8 0 j (by omega), c5, n_add1]
      refine ⟨_, rfl, rfl, fun K i k h => ?_, fun e he => ?_⟩
      · dsimp only; rw [gi_K (by omega), gi_K (by omega)]; exact e2 K i k h
      · dsimp only
        by_cases hej : e = j
        · subst hej
          refine ⟨?_, gi_same⟩
          rw [gi_K (by decide), gi_same]
        · rw [gi_k hej, gi_k hej, gi_k hej, gi_k hej]; exact e3 e (by omega)
    · intro s hI
      obtain ⟨t, x⟩ := s
      obtain ⟨e1, e2, e3⟩ := hI
      have e1 : x = nI (ne g) := e1
      subst e1
      dsimp only at e2 e3
      refine ⟨(t, nI (ne g)), ?_, e2, fun e he => e3 e he⟩
      unfold m4b
      dsimp only
      rw [e2 0 0 8 (by omega), hm1.1, if_pos (by rw [n_le (by omega) (by omega)]; omega)]
  refine ⟨r1, r2, hr1, hr2, fun K i k h => (f2 K i k (by omega)).trans (f1 K i k (by omega)), fun a ha => ?_, g2⟩
  rw [f2 15 0 a (by omega), f2 23 0 a (by omega), f2 24 0 a (by omega)]
  exact g1 a ha
theorem M_tok (hw : WG g) (hm : GM g pm ρ) : ∃ r : ST × Int32, lp m7b 1000 (ρ, 0) = some r ∧ FrM ρ r.1 ∧ ∀ e, e < ne g → gi r.1 22 0 e = nI (dl g e) ∧ ∀ i, i < dl g e → gi r.1 21 0 (e * 400 + i) = 0 := by
  have h12 := hw.1
  refine lp_cnt (fun j s => s.2 = nI j ∧ FrM ρ s.1 ∧ ∀ e, e < j → gi s.1 22 0 e = nI (dl g e) ∧ ∀ i, i < dl g e → gi s.1 21 0 (e * 400 + i) = 0) (ne g) _ ?_ ?_ 1000 0 (ρ, 0) (by omega) (by omega) ⟨rfl, FrM.rf, fun a h => by omega⟩
  · intro j s hj hI
    obtain ⟨t, x⟩ := s
    obtain ⟨e1, e2, e3⟩ := hI
    have e1 : x = nI j := e1
    subst e1
    left
    dsimp only at e2 e3
    obtain ⟨-, -, -, -, c5⟩ := hm.2.2 j hj
    obtain ⟨-, -, -, -, -, -, -, -, w9⟩ := hw.2.2 j hj
    unfold m7b
    dsimp only
    rw [e2 0 0 8 (by decide) (by decide), hm.1, if_neg (by rw [n_le (by omega) (by omega)]; omega), if_pos (nb (by omega) (by decide)), if_pos (nb (by omega) (by decide)), nx (by omega), e2 8 0 j (by decide) (by decide), c5, n_add1]
    obtain ⟨⟨r1, r2⟩, hr, f1, f2⟩ : ∃ r : ST × Int32, lp (fun s8 : ST × Int32 =>
  if (gi s8.1 8 0 j) ≤ s8.2 then
  (some (.inr ((s8.1, s8.2)))) else
  (if inb (((nI j) * 400) + s8.2) 4800 then 
  (some (.inl ((su s8.1 21 0 (ix (((nI j) * 400) + s8.2)) 0, s8.2 + 1)))) else none)) 1000 ((su t 22 0 j (nI (dl g j)), 0)) = some r ∧ (∀ K i k, ¬ (K = 21 ∧ j * 400 ≤ k ∧ k < j * 400 + 400) → gi r.1 K i k = gi (su t 22 0 j (nI (dl g j))) K i k) ∧ ∀ i, i < dl g j → gi r.1 21 0 (j * 400 + i) = 0 := by
      refine lp_cnt (fun m s => s.2 = nI m ∧ (∀ K i k, ¬ (K = 21 ∧ j * 400 ≤ k ∧ k < j * 400 + 400) → gi s.1 K i k = gi (su t 22 0 j (nI (dl g j))) K i k) ∧ ∀ i, i < m → gi s.1 21 0 (j * 400 + i) = 0) (dl g j) _ ?_ ?_ 1000 0 (su t 22 0 j (nI (dl g j)), 0) (by omega) (by omega) ⟨rfl, fun _ _ _ _ => rfl, fun a h => by omega⟩
      · intro m s hm' hI
        obtain ⟨u, x⟩ := s
        obtain ⟨y1, y2, y3⟩ := hI
        have y1 : x = nI m := y1
        subst y1
        left
        dsimp only at y2 y3 ⊢
        rw [y2 8 0 j (by omega), gi_K (by decide), e2 8 0 j (by decide) (by decide), c5, if_neg (by rw [n_le (by omega) (by omega)]; omega), n_ix, if_pos (nb (by omega) (by decide)), nx (by omega), n_add1]
        refine ⟨_, rfl, rfl, fun K i k h => ?_, fun i hi => ?_⟩
        · dsimp only; rw [gi0 (by omega)]; exact y2 K i k h
        · dsimp only
          by_cases him : i = m
          · subst him; rw [gi_same]
          · rw [gi_k (by omega)]; exact y3 i (by omega)
      · intro s hI
        obtain ⟨u, x⟩ := s
        obtain ⟨y1, y2, y3⟩ := hI
        have y1 : x = nI (dl g j) := y1
        subst y1
        dsimp only at y2 y3 ⊢
        rw [y2 8 0 j (by omega), gi_K (by decide), e2 8 0 j (by decide) (by decide), c5, if_pos (by rw [n_le (by omega) (by omega)]; omega)]
        exact ⟨_, rfl, y2, y3⟩
    rw [hr]
    dsimp only at f1 f2
    refine ⟨_, rfl, rfl, fun K i k h1 h2 => ?_, fun e he => ?_⟩
    · dsimp only
      rw [f1 K i k (by omega), gi_K h2]; exact e2 K i k h1 h2
    · dsimp only
      rw [f1 22 0 e (by omega)]
      by_cases hej : e = j
      · subst hej
        rw [gi_same]
        exact ⟨rfl, f2⟩
      · rw [gi_k hej]
        obtain ⟨z1, z2⟩ := e3 e (by omega)
        refine ⟨z1, fun i hi => ?_⟩
        have := (hw.2.2 e (by omega)).2.2.2.2.2.2.2.2
        rw [f1 21 0 _ (by omega), gi_K (by decide)]
        exact z2 i hi
  · intro s hI
    obtain ⟨t, x⟩ := s
    obtain ⟨e1, e2, e3⟩ := hI
    have e1 : x = nI (ne g) := e1
    subst e1
    dsimp only at e2 e3
    refine ⟨(t, nI (ne g)), ?_, e2, fun e he => e3 e he⟩
    unfold m7b
    dsimp only
    rw [e2 0 0 8 (by decide) (by decide), hm.1, if_pos (by rw [n_le (by omega) (by omega)]; omega)]
end S6
