/-! PURE: both balances agree; the count of the parts -/
def pr (f : Nat → Nat) : Nat → Nat
  | 0 => 1
  | n + 1 => pr f n * f n
theorem pr_pos {f : Nat → Nat} : ∀ n, (∀ a, a < n → 0 < f a) → 0 < pr f n := by
  intro n
  induction n with
  | zero => intro _; exact Nat.one_pos
  | succ n ih => intro h; exact Nat.mul_pos (ih (fun a ha => h a (by omega))) (h n (by omega))
theorem pr_dvd {f : Nat → Nat} {t : Nat} : ∀ n, t < n → f t ∣ pr f n := by
  intro n
  induction n with
  | zero => intro h; omega
  | succ n ih =>
    intro h
    show f t ∣ pr f n * f n
    by_cases e : t = n
    · subst e; exact Nat.dvd_mul_left _ _
    · exact Nat.dvd_mul_right_of_dvd (ih (by omega)) _
section BG
variable {g : GD} {pm : Nat → Int32} {n : Nat} {P S Q T L : Nat → Nat} {ρ0 ρ : ST}
theorem bal_ok (hw : WG g) (hn : n ≤ ne g) (hcs : CS g n P S) (hB : BO g n 8 Q T L ρ0 ρ) : Con g n T L := by
  obtain ⟨-, f2, f3, f4, -, -⟩ := hB
  intro e he
  obtain ⟨w1, w2, w3, w4, w5, w6, w7, w8, -⟩ := hw.2.2 e (by omega)
  have qf := f3 _ w1 w1 w3
  have qt := f3 _ w2 w2 w4
  have hr : Q (tt g e) = Q (fr g e) := (f4 e he).1 qf (by omega)
  have c1 := ((f2 _ w1).2 qf).2.2.2.2.2.2.2.2.2 S hcs.2.1
  have c2 := ((f2 _ w2).2 qt).2.2.2.2.2.2.2.2.2 S hcs.2.1
  rw [hr] at c2
  have s0 := (hcs.1 _ qf).1
  apply Nat.eq_of_mul_eq_mul_left (show 0 < S (Q (fr g e)) by omega)
  calc S (Q (fr g e)) * (T (fr g e) * rin g e * L (tt g e)) = (T (fr g e) * S (Q (fr g e))) * (rin g e * L (tt g e)) := by ac_rfl
    _ = (rin g e * S (fr g e)) * (L (fr g e) * L (tt g e)) := by rw [c1]; ac_rfl
    _ = (L (tt g e) * S (tt g e)) * (rout g e * L (fr g e)) := by rw [hcs.2.1 e he]; ac_rfl
    _ = S (Q (fr g e)) * (T (tt g e) * rout g e * L (fr g e)) := by rw [← c2]; ac_rfl
theorem bal_bad (hw : WG g) (hn : n + 1 ≤ ne g) (hcs : CS g n P S) (hp : P (fr g n) = P (tt g n)) (hne : ¬ rin g n * S (fr g n) = rout g n * S (tt g n)) (hB : BO g (n + 1) 8 Q T L ρ0 ρ) : ¬ Con g (n + 1) T L := by
  obtain ⟨-, f2, f3, f4, -, -⟩ := hB
  intro hC
  obtain ⟨D, hD⟩ : ∃ D, D = pr (fun a => if Q a < 8 then L a else 1) 8 := ⟨_, rfl⟩
  have D0 : 0 < D := by
    rw [hD]
    refine pr_pos 8 (fun a ha => ?_)
    by_cases q : Q a < 8
    · rw [if_pos q]; exact ((f2 a ha).2 q).2.2.2.2.1
    · rw [if_neg q]; omega
  have Dd : ∀ a, a < 8 → Q a < 8 → L a ∣ D := by
    intro a ha q
    have := pr_dvd (f := fun a => if Q a < 8 then L a else 1) 8 ha
    rw [← hD] at this
    rw [if_pos q] at this
    exact this
  have hφ : ∀ e, e < n + 1 → rin g e * (fun a => T a * (D / L a)) (fr g e) = rout g e * (fun a => T a * (D / L a)) (tt g e) := by
    intro e he
    obtain ⟨w1, w2, w3, w4, w5, w6, w7, w8, -⟩ := hw.2.2 e (by omega)
    have qf := f3 _ w1 w1 w3
    have qt := f3 _ w2 w2 w4
    obtain ⟨-, -, -, -, lf, -⟩ := (f2 _ w1).2 qf
    obtain ⟨-, -, -, -, lt, -⟩ := (f2 _ w2).2 qt
    have d1 : L (fr g e) * (D / L (fr g e)) = D := Nat.mul_div_cancel' (Dd _ w1 qf)
    have d2 : L (tt g e) * (D / L (tt g e)) = D := Nat.mul_div_cancel' (Dd _ w2 qt)
    dsimp only
    apply Nat.eq_of_mul_eq_mul_left (show 0 < L (fr g e) * L (tt g e) from Nat.mul_pos lf lt)
    calc L (fr g e) * L (tt g e) * (rin g e * (T (fr g e) * (D / L (fr g e)))) = (L (fr g e) * (D / L (fr g e))) * (T (fr g e) * rin g e * L (tt g e)) := by ac_rfl
      _ = (L (tt g e) * (D / L (tt g e))) * (T (tt g e) * rout g e * L (fr g e)) := by rw [hC e he, d1, d2]
      _ = L (fr g e) * L (tt g e) * (rout g e * (T (tt g e) * (D / L (tt g e)))) := by ac_rfl
  obtain ⟨w1, w2, w3, w4, w5, w6, w7, w8, -⟩ := hw.2.2 n (by omega)
  have qt := f3 _ w2 w2 w4
  obtain ⟨-, -, -, tt1, lt, -⟩ := (f2 _ w2).2 qt
  have cr := hcs.2.2.1 (fun a => T a * (D / L a)) (fun e he => hφ e (by omega)) _ _ w1 w2 hp
  have hn := hφ n (by omega)
  dsimp only at cr hn
  have h0 : 0 < T (tt g n) * (D / L (tt g n)) := Nat.mul_pos tt1 (Nat.div_pos (Nat.le_of_dvd D0 (Dd _ w2 qt)) lt)
  generalize T (tt g n) * (D / L (tt g n)) = y at *
  generalize T (fr g n) * (D / L (fr g n)) = x at *
  apply hne
  apply Nat.eq_of_mul_eq_mul_left h0
  calc y * (rin g n * S (fr g n)) = rin g n * (y * S (fr g n)) := by ac_rfl
    _ = (rin g n * x) * S (tt g n) := by rw [← cr]; ac_rfl
    _ = y * (rout g n * S (tt g n)) := by rw [hn]; ac_rfl
/-- the same parts -/
theorem same_parts (hw : WG g) (hcp : CP g (ne g) P) (hB : BO g (ne g) 8 Q T L ρ0 ρ) {a b : Nat} (ha : a < 8) (hb : b < 8) (ta : th g a = 1) (tb : th g b = 1) : P a = P b ↔ Q a = Q b := by
  obtain ⟨-, f2, f3, f4, -, -⟩ := hB
  have qa := f3 a ha ha ta
  have qb := f3 b hb hb tb
  constructor
  · intro h
    have key := hcp.2.2 Q (fun e he => by
      obtain ⟨w1, w2, w3, w4, -⟩ := hw.2.2 e (by omega)
      exact ((f4 e he).1 (f3 _ w1 w1 w3) (by have := f3 _ w1 w1 w3; omega)).symm)
    rw [key a ha, key b hb, h]
  · intro h
    rw [((f2 a ha).2 qa).2.2.2.2.2.2.2.2.1 P hcp.2.1, ((f2 b hb).2 qb).2.2.2.2.2.2.2.2.1 P hcp.2.1, h]
theorem th_part (hw : WG g) (hcp : CP g (ne g) P) {a b : Nat} (ha : a < 8) (hb : b < 8) (h : P a = P b) : th g a = th g b := by
  have key := hcp.2.2 (fun a => th g a) (fun e he => by
      obtain ⟨w1, w2, w3, w4, -⟩ := hw.2.2 e (by omega)
      rw [w3, w4])
  rw [key a ha, key b hb, h]
theorem nr_eq (hw : WG g) (hcp : CP g (ne g) P) (hB : BO g (ne g) 8 Q T L ρ0 ρ) : nr g P = sm (fun a => if Q a = a then 1 else 0) 8 := by
  have sp := @same_parts g P Q T L ρ0 ρ hw hcp hB
  obtain ⟨-, f2, f3, f4, -, -⟩ := hB
  unfold nr
  apply Nat.le_antisymm
  · refine ct_inj 8 8 (fun a => th g a = 1 ∧ P a = a) (fun a => Q a = a) Q (fun a ha pa => ?_) (fun a b ha hb pa pb h => ?_)
    · have qa := f3 a ha ha pa.1
      exact ⟨qa, ((f2 a ha).2 qa).2.2.1⟩
    · rw [← pa.2, ← pb.2]
      exact (sp ha hb pa.1 pb.1).mpr h
  · refine ct_inj 8 8 (fun a => Q a = a) (fun a => th g a = 1 ∧ P a = a) P (fun a ha pa => ?_) (fun a b ha hb pa pb h => ?_)
    · have ta := ((f2 a ha).2 (by omega)).1
      exact ⟨(hcp.1 a ha).1, by rw [← th_part hw hcp ha (hcp.1 a ha).1 (hcp.1 a ha).2.symm]; exact ta, (hcp.1 a ha).2⟩
    · rw [← pa, ← pb]
      exact (sp ha hb ((f2 a ha).2 (by omega)).1 ((f2 b hb).2 (by omega)).1).mp h
end BG
theorem Rel.fr {σ ρ σ' ρ' : ST} (hR : Rel σ ρ) (h1 : FrP σ σ') (h2 : FrQ ρ ρ') : Rel σ' ρ' := by
  obtain ⟨g, pm, pe, hw, hc, hm, hs⟩ := hR
  refine ⟨g, pm, pe, hw, hc.fp h1, hm.fq h2, ?_⟩
  rw [h1 0 0 8 (by omega), h2 0 0 9 (by omega)]
  rcases hs with hs | hs
  · exact Or.inl hs
  · obtain ⟨q1, q2, sd, tk, la, fx, sx, fi, hv, hr, ⟨c1, c2, c3, c4, c5⟩, ⟨m1, m2, m3, m4, m5⟩⟩ := hs
    refine Or.inr ⟨by rw [h1 0 0 8 (by omega)]; exact q1, by rw [h2 0 0 9 (by omega)]; exact q2, sd, tk, la, fx, sx, fi, hv, hr, ⟨fun a ha ta => ?_, ?_, fun i hi => ?_, ?_, fun e he => ?_⟩, ⟨fun a ha ta => ?_, ?_, fun i hi => ?_, ?_, fun e he => ?_⟩⟩
    · rw [h1 1 a 5 (by omega), h1 1 a 9 (by omega), h1 1 a 7 (by omega), h1 1 a 8 (by omega)]; exact c1 a ha ta
    · rw [h1 0 0 6 (by omega)]; exact c2
    · rw [h1 8 0 i (by omega)]; exact c3 i hi
    · rw [h1 0 0 7 (by omega)]; exact c4
    · obtain ⟨z1, z2, st, z3, z4, z5⟩ := c5 e he
      rw [h1 2 _ 8 (by omega), h1 2 _ 7 (by omega)]
      exact ⟨z1, z2, st, z3, by rw [h1 2 _ 6 (by omega)]; exact z4, fun i hi => by rw [h1 3 _ _ (by omega)]; exact z5 i hi⟩
    · rw [h2 14 0 a (by omega), h2 23 0 a (by omega), h2 24 0 a (by omega)]; exact m1 a ha ta
    · rw [h2 0 0 18 (by omega)]; exact m2
    · rw [h2 16 0 i (by omega)]; exact m3 i hi
    · rw [h2 0 0 19 (by omega)]; exact m4
    · obtain ⟨z1, z2, z3⟩ := m5 e he
      rw [h2 17 0 e (by omega), h2 22 0 e (by omega)]
      exact ⟨z1, z2, fun i hi => by rw [h2 21 0 _ (by omega)]; exact z3 i hi⟩
theorem op_count2 {σ ρ : ST} (hR : Rel σ ρ) : ∃ r σ' ρ', C_count σ 2 = some (r, σ') ∧ M_count ρ 2 = some (r, ρ') ∧ Rel σ' ρ' := by
  have hR0 := hR
  obtain ⟨g, pm, pe, hw, hc, hm, hs⟩ := hR
  have h12 := hw.1
  unfold C_count M_count
  rw [if_neg (show ¬ (2 : Int32) = 0 by decide), if_neg (show ¬ (2 : Int32) = 1 by decide), if_pos (show (2 : Int32) = 2 from rfl), if_neg (show ¬ (2 : Int32) < 0 by decide), if_pos (show (2 : Int32) ≤ 8 by decide), if_pos (show (2 : Int32) = 2 from rfl)]
  obtain ⟨P, σ', c1, c2, c3⟩ := C_cp_eq hw hc
  obtain ⟨b, ρ', Q, T, L, m1, m2, -⟩ := M_bal_eq hw (Nat.le_refl _) hm
  rw [c1, hm.1, m1]
  simp only [Option.bind_some]
  have hlp : lp (fun s4 : Int32 × Int32 =>
  if 8 ≤ s4.2 then
  (some (.inr ((s4.1, s4.2)))) else
  (if inb s4.2 8 then 
  (if (gi ρ' 13 0 (ix s4.2)) = s4.2 then
  (some (.inl ((s4.1 + 1, s4.2 + 1)))) else
  (some (.inl ((s4.1, s4.2 + 1))))) else none)) 1000 ((0, 0)) = some (nI (nr g P), nI 8) := by
    rw [nr_eq hw c3 m2]
    refine lp_for (fun i => (nI (sm (fun a => if Q a = a then 1 else 0) i), nI i)) 8 (fun i hi => ?_) ?_ 1000 0 (by omega) (by omega)
    · dsimp only
      rw [if_neg (lt8 hi), if_pos (nb hi (by decide)), nx (by omega), m2.2.2.2.2.1 i hi, n_add1, n_add1]
      by_cases h : Q i = i
      · rw [if_pos (by rw [q_eq hi]; exact h)]
        show _ = some (Sum.inl (nI (sm _ i + (if Q i = i then 1 else 0)), nI (i + 1)))
        rw [if_pos h]
      · rw [if_neg (by rw [q_eq hi]; exact h)]
        show _ = some (Sum.inl (nI (sm _ i + (if Q i = i then 1 else 0)), nI (i + 1)))
        rw [if_neg h]
        rfl
    · dsimp only
      rw [if_pos ge8]
  rw [hlp]
  exact ⟨_, _, _, rfl, rfl, hR0.fr c2 m2.1⟩
