/-! PURE: how often each fires, the reference's way -/
def FrT (ρ ρ' : ST) : Prop := (∀ K i k, K ≠ 14 → gi ρ' K i k = gi ρ K i k) ∧ ∀ K i k, gl ρ' K i k = gl ρ K i k
theorem FrT.rf {σ : ST} : FrT σ σ := ⟨fun _ _ _ _ => rfl, fun _ _ _ => rfl⟩
theorem FrT.tr {a b c : ST} (h1 : FrT a b) (h2 : FrT b c) : FrT a c := ⟨fun K i k x => (h2.1 K i k x).trans (h1.1 K i k x), fun K i k => (h2.2 K i k).trans (h1.2 K i k)⟩
def cap (x : Nat) : Nat := if x ≤ 1000 then x else 1000
section RP
variable {g : GD} {pm : Nat → Int32} {P S Q T L : Nat → Nat} {ρ0 ρ : ST}
theorem whole_least (hw : WG g) (hcp : CP g (ne g) P) (hcs : CS g (ne g) P S) (hB : BO g (ne g) 8 Q T L ρ0 ρ) {p k : Nat} (hp : p < 8) (hq : Q p = p) (hk : 1 ≤ k) (h : ∀ a, a < 8 → Q a = p → L a ∣ k * T a) : S p ≤ k := by
  have sp := @same_parts g P Q T L ρ0 ρ hw hcp hB
  have f2 := hB.2.1
  have tp := ((f2 p hp).2 (by omega)).1
  have hS := hcs.2.1
  have sp0 := (hcs.1 p hp).1
  have hd0 : 0 < Nat.gcd k (S p) := Nat.gcd_pos_of_pos_left _ hk
  have hc : S p / Nat.gcd k (S p) = 1 := by
    refine hcs.2.2.2 p hp _ (fun b hb pb => ?_)
    have tb : th g b = 1 := by rw [th_part hw hcp hb hp pb]; exact tp
    have qb : Q b = p := by rw [(sp hb hp tb tp).mp pb]; exact hq
    obtain ⟨-, -, -, b1, b2, b3, -, -, -, b4⟩ := (f2 b hb).2 (by omega)
    have e1 := b4 S hS
    rw [qb] at e1
    have cop : Nat.Coprime (L b) (T b) := by rw [Nat.coprime_comm]; exact b3
    have d1 : L b ∣ k := cop.dvd_of_dvd_mul_right (h b hb qb)
    have d2 : L b ∣ S p := cop.dvd_of_dvd_mul_left (by rw [e1]; exact Nat.dvd_mul_right _ _)
    obtain ⟨d', hd'⟩ := Nat.dvd_gcd d1 d2
    have e2 : Nat.gcd k (S p) * (S p / Nat.gcd k (S p)) = S p := Nat.mul_div_cancel' (Nat.gcd_dvd_right _ _)
    generalize S p / Nat.gcd k (S p) = c at *
    rw [← e2, hd'] at e1
    have e3 : S b = T b * d' * c := by
      apply Nat.eq_of_mul_eq_mul_left (show 0 < L b by omega)
      rw [← e1]
      ac_rfl
    rw [e3]
    exact Nat.dvd_mul_left _ _
  have e2 : Nat.gcd k (S p) * (S p / Nat.gcd k (S p)) = S p := Nat.mul_div_cancel' (Nat.gcd_dvd_right _ _)
  rw [hc, Nat.mul_one] at e2
  rw [← e2]
  exact Nat.gcd_le_left _ hk
theorem whole_share (hcs : CS g (ne g) P S) (hB : BO g (ne g) 8 Q T L ρ0 ρ) {a : Nat} (ha : a < 8) (hq : Q a < 8) : S (Q a) * T a = L a * S a := by
  obtain ⟨-, -, -, b1, b2, b3, -, -, -, b4⟩ := (hB.2.1 a ha).2 hq
  rw [Nat.mul_comm]
  exact b4 S hcs.2.1
theorem M_whole_eq (hB : BO g (ne g) 8 Q T L ρ0 ρ) {p k : Nat} (hp : p < 8) (hk : k ≤ 65) {t : ST} (ht : FrT ρ t) : ∃ t', FrT ρ t' ∧ (∀ a, a < 8 → ¬ Q a = p → gi t' 14 0 a = gi t 14 0 a) ∧ ((M_whole t (nI p) (nI k) = some (1, t') ∧ (∀ a, a < 8 → Q a = p → L a ∣ k * T a ∧ gi t' 14 0 a = nI (cap (k * T a / L a)))) ∨ (M_whole t (nI p) (nI k) = some (0, t') ∧ ¬ ∀ a, a < 8 → Q a = p → L a ∣ k * T a)) := by
  obtain ⟨-, f2, f3, f4, f5, f6⟩ := hB
  unfold M_whole
  obtain ⟨r, hr, hp⟩ : ∃ r : (ST × Int32) ⊕ (Int32 × ST), lp (fun s1 : ST × Int32 =>
  if 8 ≤ s1.2 then
  (some (.inr (.inl ((s1.1, s1.2))))) else
  (if inb s1.2 8 then 
  (if (gi s1.1 13 0 (ix s1.2)) = nI p then
  (if ¬ (gl s1.1 12 0 (ix s1.2)) = 0 then 
  (if (lg_cmp (((nI k).toInt64 * (gl s1.1 11 0 (ix s1.2))) - ((nI k).toInt64 * (gl s1.1 11 0 (ix s1.2))) / (gl s1.1 12 0 (ix s1.2)) * (gl s1.1 12 0 (ix s1.2))) 0) = 0 then
  (if (lg_cmp (((nI k).toInt64 * (gl s1.1 11 0 (ix s1.2))) / (gl s1.1 12 0 (ix s1.2))) 1000) ≤ 0 then
  (some (.inl ((su s1.1 14 0 (ix s1.2) ((((nI k).toInt64 * (gl s1.1 11 0 (ix s1.2))) / (gl s1.1 12 0 (ix s1.2))).toInt32), s1.2 + 1)))) else
  (some (.inl ((su s1.1 14 0 (ix s1.2) 1000, s1.2 + 1))))) else
  (some (.inr (.inr ((0, s1.1)))))) else none) else
  (some (.inl ((s1.1, s1.2 + 1))))) else none)) 1000 ((t, 0)) = some r ∧ (match r with
    | .inl s => FrT ρ s.1 ∧ (∀ a, a < 8 → ¬ Q a = p → gi s.1 14 0 a = gi t 14 0 a) ∧ (∀ a, a < 8 → Q a = p → L a ∣ k * T a ∧ gi s.1 14 0 a = nI (cap (k * T a / L a)))
    | .inr v => v.1 = 0 ∧ FrT ρ v.2 ∧ (∀ a, a < 8 → ¬ Q a = p → gi v.2 14 0 a = gi t 14 0 a) ∧ ¬ ∀ a, a < 8 → Q a = p → L a ∣ k * T a) := by
    refine lp_cnt (fun j s => s.2 = nI j ∧ FrT ρ s.1 ∧ (∀ a, a < 8 → ¬ Q a = p → gi s.1 14 0 a = gi t 14 0 a) ∧ (∀ a, a < j → Q a = p → L a ∣ k * T a ∧ gi s.1 14 0 a = nI (cap (k * T a / L a)))) 8 _ ?_ ?_ 1000 0 (t, 0) (by omega) (by omega) ⟨rfl, ht, fun _ _ _ => rfl, fun a h => by omega⟩
    · intro j s hj hI
      obtain ⟨u, x⟩ := s
      obtain ⟨e1, e2, e3, e4⟩ := hI
      have e1 : x = nI j := e1
      subst e1
      dsimp only at e2 e3 e4 ⊢
      rw [if_neg (lt8 hj), if_pos (nb hj (by decide)), nx (by omega), e2.1 13 0 j (by decide), e2.2 11 0 j, e2.2 12 0 j, f5 j hj, n_add1]
      by_cases hq : Q j = p
      · rw [if_pos (by rw [q_eq hp]; exact hq)]
        obtain ⟨-, -, -, b1, b2, b3, b5, b6, -⟩ := (f2 j hj).2 (by omega)
        obtain ⟨l1, l2⟩ := f6 j hj (by omega)
        have b5 := p68 b5
        have b6 := p68 b6
        have hkt : k * T j ≤ 65 * 279936 := Nat.mul_le_mul hk (by omega)
        have hdl : k * T j / L j ≤ k * T j := Nat.div_le_self _ _
        have hml : k * T j % L j < L j := Nat.mod_lt _ (by omega)
        rw [l1, l2, nI_l (by omega), lN_mul, if_pos (by rw [show (0 : Int64) = lN 0 from rfl, pk_lEQ (by omega) (by omega)]; omega), pk_lRem (by omega) (by omega) (by omega), pk_lDiv (by omega) (by omega) (by omega)]
        by_cases hd : L j ∣ k * T j
        · left
          rw [if_pos (by rw [lg0, Nat.mod_eq_zero_of_dvd hd]; rfl)]
          by_cases hc : k * T j / L j ≤ 1000
          · rw [if_pos (by rw [lg_cmp_le, show (1000 : Int64) = lN 1000 from rfl, pk_lLE (by omega) (by omega)]; exact hc), lN_i]
            refine ⟨_, rfl, rfl, ⟨fun K i k' h => ?_, fun K i k' => ?_⟩, fun a ha hne => ?_, fun a ha hq2 => ?_⟩
            · dsimp only; rw [gi_K h]; exact e2.1 K i k' h
            · dsimp only; rw [gl_su]; exact e2.2 K i k'
            · dsimp only; rw [gi_k (fun e => hne (by rw [e]; exact hq))]; exact e3 a ha hne
            · dsimp only
              by_cases haj : a = j
              · subst haj
                rw [gi_same]
                refine ⟨hd, ?_⟩
                unfold cap
                rw [if_pos hc]
              · rw [gi_k haj]; exact e4 a (by omega) hq2
          · rw [if_neg (by rw [lg_cmp_le, show (1000 : Int64) = lN 1000 from rfl, pk_lLE (by omega) (by omega)]; exact hc)]
            refine ⟨_, rfl, rfl, ⟨fun K i k' h => ?_, fun K i k' => ?_⟩, fun a ha hne => ?_, fun a ha hq2 => ?_⟩
            · dsimp only; rw [gi_K h]; exact e2.1 K i k' h
            · dsimp only; rw [gl_su]; exact e2.2 K i k'
            · dsimp only; rw [gi_k (fun e => hne (by rw [e]; exact hq))]; exact e3 a ha hne
            · dsimp only
              by_cases haj : a = j
              · subst haj
                rw [gi_same]
                refine ⟨hd, ?_⟩
                unfold cap
                rw [if_neg hc]
                rfl
              · rw [gi_k haj]; exact e4 a (by omega) hq2
        · right
          rw [if_neg (by rw [lg0, show (0 : Int64) = lN 0 from rfl, pk_lEQ (by omega) (by omega)]; exact fun e => hd (Nat.dvd_of_mod_eq_zero e))]
          exact ⟨_, rfl, rfl, e2, e3, fun q => hd (q j hj hq)⟩
      · left
        rw [if_neg (by rw [q_eq hp]; exact hq)]
        refine ⟨_, rfl, rfl, e2, e3, fun a ha hq2 => ?_⟩
        by_cases haj : a = j
        · subst haj; exact absurd hq2 hq
        · exact e4 a (by omega) hq2
    · intro s hI
      obtain ⟨u, x⟩ := s
      obtain ⟨e1, e2, e3, e4⟩ := hI
      have e1 : x = nI 8 := e1
      subst e1
      dsimp only at e2 e3 e4 ⊢
      rw [if_pos ge8]
      exact ⟨_, rfl, e2, e3, e4⟩
  rw [hr]
  rcases r with s | v
  · obtain ⟨p1, p2, p3⟩ := hp
    exact ⟨s.1, p1, p2, Or.inl ⟨rfl, p3⟩⟩
  · obtain ⟨p0, p1, p2, p3⟩ := hp
    obtain ⟨v1, v2⟩ := v
    have p0 : v1 = 0 := p0
    subst p0
    exact ⟨v2, p1, p2, Or.inr ⟨rfl, p3⟩⟩
theorem M_least (hw : WG g) (hcp : CP g (ne g) P) (hcs : CS g (ne g) P S) (hB : BO g (ne g) 8 Q T L ρ0 ρ) {p : Nat} (hp : p < 8) (hq : Q p = p) {t : ST} (ht : FrT ρ t) : ∃ r : ST × Int32, lp (fun s2 : ST × Int32 =>
  if 65 ≤ s2.2 then
  (some (.inr ((s2.1, s2.2)))) else
  ((M_whole s2.1 (nI p) s2.2).bind (fun b1 => 
  (if b1.1 = 0 then
  (some (.inl ((b1.2, s2.2 + 1)))) else
  (some (.inr ((b1.2, s2.2)))))))) 1000 ((t, 1)) = some r ∧ FrT ρ r.1 ∧ (∀ a, a < 8 → ¬ Q a = p → gi r.1 14 0 a = gi t 14 0 a) ∧ ((64 < S p ∧ r.2 = 65) ∨ (S p ≤ 64 ∧ ¬ r.2 = 65 ∧ ∀ a, a < 8 → Q a = p → gi r.1 14 0 a = nI (cap (S a)))) := by
  have s0 := (hcs.1 p hp).1
  refine lp_cnt (fun j s => s.2 = nI (j + 1) ∧ j + 1 ≤ S p ∧ FrT ρ s.1 ∧ (∀ a, a < 8 → ¬ Q a = p → gi s.1 14 0 a = gi t 14 0 a)) 64 _ ?_ ?_ 1000 0 (t, 1) (by omega) (by omega) ⟨rfl, s0, ht, fun _ _ _ => rfl⟩
  · intro j s hj hI
    obtain ⟨u, x⟩ := s
    obtain ⟨e1, e2, e3, e4⟩ := hI
    have e1 : x = nI (j + 1) := e1
    subst e1
    dsimp only at e3 e4 ⊢
    rw [if_neg (show ¬ (65 : Int32) ≤ nI (j + 1) by rw [show (65 : Int32) = nI 65 from rfl, n_le (by omega) (by omega)]; omega)]
    obtain ⟨t', z1, z2, ⟨z3, z4⟩ | ⟨z3, z4⟩⟩ := M_whole_eq hB hp (show j + 1 ≤ 65 by omega) e3
    · right
      rw [z3]
      simp only [Option.bind_some]
      rw [if_neg (show ¬ (1 : Int32) = 0 by decide)]
      have hle := whole_least hw hcp hcs hB hp hq (show 1 ≤ j + 1 by omega) (fun a ha qa => (z4 a ha qa).1)
      have hEq : S p = j + 1 := by omega
      refine ⟨_, rfl, z1, fun a ha hne => (z2 a ha hne).trans (e4 a ha hne), Or.inr ⟨by omega, ?_, fun a ha qa => ?_⟩⟩
      · dsimp only
        rw [show (65 : Int32) = nI 65 from rfl, n_eq (by omega) (by omega)]; omega
      · obtain ⟨-, y2⟩ := z4 a ha qa
        have ws := whole_share hcs hB ha (by omega)
        rw [qa, hEq] at ws
        have l0 := ((hB.2.1 a ha).2 (by omega)).2.2.2.2.1
        rw [y2, ws, Nat.mul_div_cancel_left _ (by omega)]
    · left
      rw [z3]
      simp only [Option.bind_some]
      rw [if_pos trivial, n_add1]
      refine ⟨_, rfl, rfl, ?_, z1, fun a ha hne => (z2 a ha hne).trans (e4 a ha hne)⟩
      apply Classical.byContradiction
      intro hlt
      apply z4
      intro a ha qa
      have ws := whole_share hcs hB ha (by omega)
      rw [qa, show S p = j + 1 by omega] at ws
      rw [ws]
      exact Nat.dvd_mul_right _ _
  · intro s hI
    obtain ⟨u, x⟩ := s
    obtain ⟨e1, e2, e3, e4⟩ := hI
    have e1 : x = nI (64 + 1) := e1
    subst e1
    dsimp only at e3 e4 ⊢
    rw [if_pos (show (65 : Int32) ≤ nI (64 + 1) by decide)]
    exact ⟨_, rfl, e3, e4, Or.inl ⟨by omega, rfl⟩⟩
def tot (g : GD) (S : Nat → Nat) : Nat := sm (fun a => if th g a = 1 then S a else 0) 8
theorem M_rep_eq (hw : WG g) (hm : GM g pm ρ) (hcp : CP g (ne g) P) (hcs : CS g (ne g) P S) (hB : BO g (ne g) 8 Q T L ρ0 ρ) : ∃ s ρ', M_repeat ρ = some (s, ρ') ∧ FrT ρ ρ' ∧ ((tot g S ≤ 64 ∧ s = nI (tot g S) ∧ ∀ a, a < 8 → th g a = 1 → gi ρ' 14 0 a = nI (S a)) ∨ (64 < tot g S ∧ ¬ s ≤ 64)) := by
  unfold M_repeat
  obtain ⟨r, hr, hp⟩ : ∃ r : (ST × Int32) ⊕ (Int32 × ST), lp (fun s1 : ST × Int32 =>
  if 8 ≤ s1.2 then
  (some (.inr (.inl ((s1.1, s1.2))))) else
  (if inb s1.2 8 then 
  (if (gi s1.1 13 0 (ix s1.2)) = s1.2 then
  ((lp (fun s2 : ST × Int32 =>
  if 65 ≤ s2.2 then
  (some (.inr ((s2.1, s2.2)))) else
  ((M_whole s2.1 s1.2 s2.2).bind (fun b1 => 
  (if b1.1 = 0 then
  (some (.inl ((b1.2, s2.2 + 1)))) else
  (some (.inr ((b1.2, s2.2)))))))) 1000 ((s1.1, 1))).bind (fun r2 : ST × Int32 =>
  if r2.2 = 65 then
  (some (.inr (.inr ((65, r2.1))))) else
  (some (.inl ((r2.1, s1.2 + 1)))))) else
  (some (.inl ((s1.1, s1.2 + 1))))) else none)) 1000 ((ρ, 0)) = some r ∧ (match r with
    | .inl s => FrT ρ s.1 ∧ ∀ a, a < 8 → th g a = 1 → gi s.1 14 0 a = nI (cap (S a))
    | .inr v => v.1 = 65 ∧ FrT ρ v.2 ∧ 64 < tot g S) := by
    refine lp_cnt (fun j s => s.2 = nI j ∧ FrT ρ s.1 ∧ ∀ a, a < 8 → Q a < j → gi s.1 14 0 a = nI (cap (S a))) 8 _ ?_ ?_ 1000 0 (ρ, 0) (by omega) (by omega) ⟨rfl, FrT.rf, fun a _ h => by omega⟩
    · intro j s hj hI
      obtain ⟨u, x⟩ := s
      obtain ⟨e1, e2, e3⟩ := hI
      have e1 : x = nI j := e1
      subst e1
      dsimp only at e2 e3 ⊢
      rw [if_neg (lt8 hj), if_pos (nb hj (by decide)), nx (by omega), e2.1 13 0 j (by decide), hB.2.2.2.2.1 j hj, n_add1]
      by_cases hq : Q j = j
      · rw [if_pos (by rw [q_eq hj]; exact hq)]
        obtain ⟨r2, h2, z1, z2, z3⟩ := M_least hw hcp hcs hB hj hq e2
        rw [h2]
        simp only [Option.bind_some]
        rcases z3 with ⟨z3, z4⟩ | ⟨z3, z4, z5⟩
        · right
          rw [if_pos z4]
          refine ⟨_, rfl, rfl, z1, ?_⟩
          have tj := ((hB.2.1 j hj).2 (by omega)).1
          have := sm_ge (f := fun a => if th g a = 1 then S a else 0) (t := j) 8 hj
          simp only [tj, if_true] at this
          unfold tot
          omega
        · left
          rw [if_neg z4]
          refine ⟨_, rfl, rfl, z1, fun a ha hlt => ?_⟩
          by_cases hqa : Q a = j
          · exact z5 a ha hqa
          · dsimp only
            rw [z2 a ha hqa]
            exact e3 a ha (by omega)
      · left
        rw [if_neg (by rw [q_eq hj]; exact hq)]
        refine ⟨_, rfl, rfl, e2, fun a ha hlt => ?_⟩
        by_cases hqa : Q a = j
        · have := ((hB.2.1 a ha).2 (by omega)).2.2.1
          rw [hqa] at this
          exact absurd this hq
        · exact e3 a ha (by omega)
    · intro s hI
      obtain ⟨u, x⟩ := s
      obtain ⟨e1, e2, e3⟩ := hI
      have e1 : x = nI 8 := e1
      subst e1
      dsimp only at e2 e3 ⊢
      rw [if_pos ge8]
      exact ⟨_, rfl, e2, fun a ha ta => e3 a ha (hB.2.2.1 a ha ha ta)⟩
  rw [hr]
  rcases r with ⟨u, x⟩ | ⟨v1, v2⟩
  · obtain ⟨p1, p2⟩ := hp
    dsimp only at p1 p2
    simp only [Option.bind_some, Sum.elim_inl]
    have hlp : lp (fun s3 : Int32 × Int32 =>
  if 8 ≤ s3.2 then
  (some (.inr ((s3.1, s3.2)))) else
  (if inb s3.2 8 then 
  (if (gi u 1 0 (ix s3.2)) = 0 then
  (some (.inl ((s3.1, s3.2 + 1)))) else
  (some (.inl ((s3.1 + (gi u 14 0 (ix s3.2)), s3.2 + 1))))) else none)) 1000 ((0, 0)) = some (nI (sm (fun a => if th g a = 1 then cap (S a) else 0) 8), nI 8) := by
      refine lp_for (fun i => (nI (sm (fun a => if th g a = 1 then cap (S a) else 0) i), nI i)) 8 (fun i hi => ?_) ?_ 1000 0 (by omega) (by omega)
      · dsimp only
        rw [if_neg (lt8 hi), if_pos (nb hi (by decide)), nx (by omega), p1.1 1 0 i (by decide), (hm.2.1 i hi).1, n_add1]
        have w1 := (hw.2.1 i hi).1
        by_cases h : th g i = 1
        · rw [if_neg (by rw [h]; decide), p2 i hi h, nI_add]
          show _ = some (Sum.inl (nI (sm _ i + (if th g i = 1 then cap (S i) else 0)), nI (i + 1)))
          rw [if_pos h]
        · rw [if_pos (by rw [show th g i = 0 by omega]; rfl)]
          show _ = some (Sum.inl (nI (sm _ i + (if th g i = 1 then cap (S i) else 0)), nI (i + 1)))
          rw [if_neg h]
          rfl
      · dsimp only
        rw [if_pos ge8]
    rw [hlp]
    refine ⟨_, u, rfl, p1, ?_⟩
    have hcap : ∀ a, a < 8 → (if th g a = 1 then cap (S a) else 0) ≤ 1000 := fun a _ => by
      unfold cap
      by_cases h1 : th g a = 1
      · rw [if_pos h1]
        split <;> omega
      · rw [if_neg h1]
        omega
    have hb := sm_le 8 hcap
    by_cases ht : tot g S ≤ 64
    · left
      have hsm : ∀ a, a < 8 → th g a = 1 → cap (S a) = S a := by
        intro a ha ta
        have := sm_ge (f := fun a => if th g a = 1 then S a else 0) (t := a) 8 ha
        simp only [ta, if_true] at this
        unfold tot at ht
        unfold cap
        rw [if_pos (by omega)]
      refine ⟨ht, ?_, fun a ha ta => by rw [p2 a ha ta, hsm a ha ta]⟩
      show nI _ = nI _
      congr 1
      refine sm_cg 8 (fun a ha => ?_)
      by_cases h : th g a = 1
      · rw [if_pos h, if_pos h, hsm a ha h]
      · rw [if_neg h, if_neg h]
    · right
      refine ⟨by omega, ?_⟩
      rw [show (64 : Int32) = nI 64 from rfl, n_le (by omega) (by omega)]
      by_cases hall : ∃ a, a < 8 ∧ th g a = 1 ∧ 1000 < S a
      · obtain ⟨a, ha, ta, hs⟩ := hall
        have := sm_ge (f := fun a => if th g a = 1 then cap (S a) else 0) (t := a) 8 ha
        simp only [ta, if_true] at this
        unfold cap at this
        rw [if_neg (by omega)] at this
        unfold cap
        omega
      · have : sm (fun a => if th g a = 1 then cap (S a) else 0) 8 = tot g S := by
          refine sm_cg 8 (fun a ha => ?_)
          by_cases h : th g a = 1
          · rw [if_pos h, if_pos h]
            unfold cap
            rw [if_pos (Nat.le_of_not_lt (fun q => hall ⟨a, ha, h, q⟩))]
          · rw [if_neg h, if_neg h]
        omega
  · obtain ⟨p0, p1, p2⟩ := hp
    have p0 : v1 = 65 := p0
    subst p0
    exact ⟨65, v2, rfl, p1, Or.inr ⟨p2, by decide⟩⟩
end RP
