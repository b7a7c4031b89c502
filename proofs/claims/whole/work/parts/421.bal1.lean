/-! PURE: labels and shares of the class -/
def CP (g : GD) (n : Nat) (P : Nat → Nat) : Prop := (∀ a, a < 8 → P a < 8 ∧ P (P a) = P a) ∧ (∀ e, e < n → P (fr g e) = P (tt g e)) ∧ ∀ φ : Nat → Nat, (∀ e, e < n → φ (fr g e) = φ (tt g e)) → ∀ a, a < 8 → φ a = φ (P a)
def jn (P : Nat → Nat) (k l : Nat) : Nat → Nat := fun a => if P a = l then k else P a
def CS (g : GD) (n : Nat) (P S : Nat → Nat) : Prop := (∀ a, a < 8 → 1 ≤ S a ∧ 6 * S a ≤ 6 ^ sz P (P a)) ∧ (∀ e, e < n → rin g e * S (fr g e) = rout g e * S (tt g e)) ∧ (∀ φ : Nat → Nat, (∀ e, e < n → rin g e * φ (fr g e) = rout g e * φ (tt g e)) → ∀ a b, a < 8 → b < 8 → P a = P b → φ a * S b = φ b * S a) ∧ ∀ a, a < 8 → ∀ d, (∀ b, b < 8 → P b = P a → d ∣ S b) → d = 1
theorem CP.zero (g : GD) : CP g 0 (fun a => a) := ⟨fun a ha => ⟨ha, rfl⟩, fun e he => absurd he (Nat.not_lt_zero _), fun φ _ a _ => rfl⟩
theorem CS.zero (g : GD) : CS g 0 (fun a => a) (fun _ => 1) := by
  refine ⟨fun a ha => ⟨Nat.le_refl _, ?_⟩, fun e he => absurd he (Nat.not_lt_zero _), fun φ _ a b _ _ h => ?_, fun a ha d h => ?_⟩
  · have := p6 (sz_pos (P := fun a => a) ha)
    simpa using this
  · have : a = b := h
    subst this
    rfl
  · exact Nat.dvd_one.mp (h a ha rfl)
section BA
variable {g : GD} {n : Nat} {P S : Nat → Nat}
theorem CP.same (h : CP g n P) (he : P (fr g n) = P (tt g n)) : CP g (n + 1) P := by
  refine ⟨h.1, fun e hl => ?_, fun φ hφ => h.2.2 φ (fun e he => hφ e (by omega))⟩
  by_cases e1 : e = n
  · subst e1; exact he
  · exact h.2.1 e (by omega)
theorem CS.same (h : CS g n P S) (he : rin g n * S (fr g n) = rout g n * S (tt g n)) : CS g (n + 1) P S := by
  refine ⟨h.1, fun e hl => ?_, fun φ hφ => h.2.2.1 φ (fun e he => hφ e (by omega)), h.2.2.2⟩
  by_cases e1 : e = n
  · subst e1; exact he
  · exact h.2.1 e (by omega)
theorem CP.join (h : CP g n P) (hf : fr g n < 8) (ht : tt g n < 8) (hne : ¬ P (fr g n) = P (tt g n)) : CP g (n + 1) (jn P (P (fr g n)) (P (tt g n))) := by
  obtain ⟨h1, h2, h3⟩ := h
  refine ⟨fun a ha => ?_, fun e he => ?_, fun φ hφ a ha => ?_⟩
  · unfold jn
    by_cases e1 : P a = P (tt g n)
    · rw [if_pos e1]
      refine ⟨(h1 _ hf).1, ?_⟩
      rw [if_neg (by rw [(h1 _ hf).2]; exact hne), (h1 _ hf).2]
    · rw [if_neg e1]
      refine ⟨(h1 _ ha).1, ?_⟩
      rw [if_neg (by rw [(h1 _ ha).2]; exact e1), (h1 _ ha).2]
  · unfold jn
    by_cases e1 : e = n
    · subst e1
      rw [if_pos (show P (tt g e) = P (tt g e) from rfl), if_neg hne]
    · rw [h2 e (by omega)]
  · have hφ' : ∀ e, e < n → φ (fr g e) = φ (tt g e) := fun e he => hφ e (by omega)
    unfold jn
    by_cases e1 : P a = P (tt g n)
    · rw [if_pos e1, h3 φ hφ' a ha, e1, ← h3 φ hφ' _ ht, ← hφ n (by omega), h3 φ hφ' _ hf]
    · rw [if_neg e1]
      exact h3 φ hφ' a ha
/-- d divides u, if it divides all shares of a part times u -/
theorem dv_u {p : Nat → Prop} {d u : Nat} (h0 : 0 < u) (h1 : ∀ d, (∀ b, b < 8 → p b → d ∣ S b) → d = 1) (h : ∀ b, b < 8 → p b → d ∣ S b * u) : d ∣ u := by
  have hg : 0 < Nat.gcd d u := Nat.gcd_pos_of_pos_right _ h0
  have hk : d / Nat.gcd d u = 1 := by
    refine h1 _ (fun b hb pb => ?_)
    have hc : Nat.Coprime (d / Nat.gcd d u) (u / Nat.gcd d u) := Nat.coprime_div_gcd_div_gcd hg
    refine hc.dvd_of_dvd_mul_right (m := S b) ?_
    have h2 := h b hb pb
    have e1 : d = Nat.gcd d u * (d / Nat.gcd d u) := (Nat.mul_div_cancel' (Nat.gcd_dvd_left d u)).symm
    have e2 : u = Nat.gcd d u * (u / Nat.gcd d u) := (Nat.mul_div_cancel' (Nat.gcd_dvd_right d u)).symm
    have h3 : Nat.gcd d u * (d / Nat.gcd d u) ∣ Nat.gcd d u * (S b * (u / Nat.gcd d u)) := by
      rw [← e1, Nat.mul_left_comm, ← e2]
      exact h2
    exact Nat.dvd_of_mul_dvd_mul_left hg h3
  have e1 : d = Nat.gcd d u * (d / Nat.gcd d u) := (Nat.mul_div_cancel' (Nat.gcd_dvd_left d u)).symm
  rw [hk, Nat.mul_one] at e1
  rw [e1]
  exact Nat.gcd_dvd_right d u
def scl (P S : Nat → Nat) (k l u v : Nat) : Nat → Nat := fun a => if P a = l then S a * v else if P a = k then S a * u else S a
theorem sz_jn {k l : Nat} (hkl : ¬ k = l) : sz (jn P k l) k = sz P k + sz P l := by
  unfold sz
  refine sm_add 8 (fun a _ => ?_)
  unfold jn
  by_cases e1 : P a = l
  · simp [e1, hkl, Ne.symm hkl]
  · simp [e1]
theorem sz_jn' {k l r : Nat} (h1 : ¬ r = k) (h2 : ¬ r = l) : sz (jn P k l) r = sz P r := by
  unfold sz
  refine sm_cg 8 (fun a _ => ?_)
  unfold jn
  by_cases e1 : P a = l
  · rw [if_pos e1, if_neg (fun h => h1 h.symm), if_neg (fun h => h2 (h.symm.trans e1))]
  · rw [if_neg e1]
theorem CS.join (hc : CP g n P) (h : CS g n P S) (hf : fr g n < 8) (ht : tt g n < 8) (hi : 1 ≤ rin g n ∧ rin g n ≤ 6) (ho : 1 ≤ rout g n ∧ rout g n ≤ 6) (hne : ¬ P (fr g n) = P (tt g n)) {G u v : Nat} (hG : G = Nat.gcd (rin g n * S (fr g n)) (rout g n * S (tt g n))) (hu : u = rout g n * S (tt g n) / G) (hv : v = rin g n * S (fr g n) / G) : CS g (n + 1) (jn P (P (fr g n)) (P (tt g n))) (scl P S (P (fr g n)) (P (tt g n)) u v) := by
  obtain ⟨h1, h2, h3, h4⟩ := h
  obtain ⟨f1, f2⟩ := h1 _ hf
  obtain ⟨t1, t2⟩ := h1 _ ht
  have hA : 0 < rin g n * S (fr g n) := Nat.mul_pos (by omega) (by omega)
  have hB : 0 < rout g n * S (tt g n) := Nat.mul_pos (by omega) (by omega)
  have hG0 : 0 < G := by rw [hG]; exact Nat.gcd_pos_of_pos_left _ hA
  have eu : G * u = rout g n * S (tt g n) := by rw [hu]; exact Nat.mul_div_cancel' (by rw [hG]; exact Nat.gcd_dvd_right _ _)
  have ev : G * v = rin g n * S (fr g n) := by rw [hv]; exact Nat.mul_div_cancel' (by rw [hG]; exact Nat.gcd_dvd_left _ _)
  have u0 : 0 < u := Nat.pos_of_ne_zero (fun h => by subst h; omega)
  have v0 : 0 < v := Nat.pos_of_ne_zero (fun h => by subst h; omega)
  have ub : u ≤ 6 ^ sz P (P (tt g n)) := by
    have a1 : u ≤ G * u := Nat.le_mul_of_pos_left u hG0
    have a2 : rout g n * S (tt g n) ≤ 6 * S (tt g n) := Nat.mul_le_mul_right _ ho.2
    omega
  have vb : v ≤ 6 ^ sz P (P (fr g n)) := by
    have a1 : v ≤ G * v := Nat.le_mul_of_pos_left v hG0
    have a2 : rin g n * S (fr g n) ≤ 6 * S (fr g n) := Nat.mul_le_mul_right _ hi.2
    omega
  have cuv : Nat.Coprime u v := by
    rw [hu, hv, hG]
    exact (Nat.coprime_div_gcd_div_gcd (by rw [← hG]; exact hG0)).symm
  have key : rin g n * S (fr g n) * u = rout g n * S (tt g n) * v := by rw [← eu, ← ev, Nat.mul_assoc, Nat.mul_assoc, Nat.mul_comm u v]
  generalize hk : P (fr g n) = k at *
  generalize hl : P (tt g n) = l at *
  refine ⟨fun a ha => ?_, fun e he => ?_, fun φ hφ a b ha hb hab => ?_, fun a ha d hd => ?_⟩
  · obtain ⟨a1, a2⟩ := h1 a ha
    unfold scl
    by_cases e1 : P a = l
    · rw [if_pos e1, show jn P k l a = k by unfold jn; rw [if_pos e1], sz_jn hne, Nat.pow_add]
      refine ⟨Nat.mul_pos a1 v0, ?_⟩
      rw [← Nat.mul_assoc, Nat.mul_comm (6 ^ sz P k)]
      rw [e1] at a2
      exact Nat.mul_le_mul a2 vb
    · rw [if_neg e1]
      by_cases e2 : P a = k
      · rw [if_pos e2, show jn P k l a = k by unfold jn; rw [if_neg e1]; exact e2, sz_jn hne, Nat.pow_add]
        refine ⟨Nat.mul_pos a1 u0, ?_⟩
        rw [← Nat.mul_assoc]
        rw [e2] at a2
        exact Nat.mul_le_mul a2 ub
      · rw [if_neg e2, show jn P k l a = P a by unfold jn; rw [if_neg e1], sz_jn' e2 e1]
        exact ⟨a1, a2⟩
  · by_cases e1 : e = n
    · subst e1
      unfold scl
      rw [if_neg (by rw [hk]; exact hne), if_pos hk, if_pos hl, ← Nat.mul_assoc, ← Nat.mul_assoc]
      exact key
    · have q := h2 e (by omega)
      have p := hc.2.1 e (by omega)
      unfold scl
      rw [p]
      by_cases e2 : P (tt g e) = l
      · rw [if_pos e2, if_pos e2, ← Nat.mul_assoc, ← Nat.mul_assoc, q]
      · rw [if_neg e2, if_neg e2]
        by_cases e3 : P (tt g e) = k
        · rw [if_pos e3, if_pos e3, ← Nat.mul_assoc, ← Nat.mul_assoc, q]
        · rw [if_neg e3, if_neg e3]; exact q
  · have hφ' : ∀ e, e < n → rin g e * φ (fr g e) = rout g e * φ (tt g e) := fun e he => hφ e (by omega)
    have cr := h3 φ hφ'
    have hn := hφ n (by omega)
    -- a in the first part, b in the second
    have two : ∀ a b, a < 8 → b < 8 → P a = k → P b = l → φ a * (S b * v) = φ b * (S a * u) := by
      intro a b ha hb pa pb
      have c1 := cr a (fr g n) ha hf (by rw [pa, hk])
      have c2 := cr b (tt g n) hb ht (by rw [pb, hl])
      apply Nat.eq_of_mul_eq_mul_left hG0
      calc G * (φ a * (S b * v)) = (φ a * S b) * (G * v) := by ac_rfl
        _ = (φ a * S (fr g n)) * (rin g n * S b) := by rw [ev]; ac_rfl
        _ = (rin g n * φ (fr g n)) * (S a * S b) := by rw [c1]; ac_rfl
        _ = (φ (tt g n) * S b) * (rout g n * S a) := by rw [hn]; ac_rfl
        _ = (φ b * S a) * (G * u) := by rw [← c2, eu]; ac_rfl
        _ = G * (φ b * (S a * u)) := by ac_rfl
    unfold jn at hab
    unfold scl
    by_cases a1 : P a = l
    · rw [if_pos a1] at hab ⊢
      by_cases b1 : P b = l
      · rw [if_pos b1, ← Nat.mul_assoc, ← Nat.mul_assoc, cr a b ha hb (a1.trans b1.symm)]
      · rw [if_neg b1] at hab ⊢
        rw [if_pos hab.symm]
        exact (two b a hb ha hab.symm a1).symm
    · rw [if_neg a1] at hab ⊢
      by_cases b1 : P b = l
      · rw [if_pos b1] at hab ⊢
        rw [if_pos hab]
        exact two a b ha hb hab b1
      · rw [if_neg b1] at hab ⊢
        by_cases a2 : P a = k
        · rw [if_pos a2, if_pos (hab.symm.trans a2), ← Nat.mul_assoc, ← Nat.mul_assoc, cr a b ha hb hab]
        · rw [if_neg a2, if_neg (fun h => a2 (hab.trans h))]
          exact cr a b ha hb hab
  · unfold jn at hd
    by_cases a0 : P a = l ∨ P a = k
    · have r : (if P a = l then k else P a) = k := by
        by_cases a1 : P a = l
        · rw [if_pos a1]
        · rw [if_neg a1]
          rcases a0 with a0 | a0
          · exact absurd a0 a1
          · exact a0
      rw [r] at hd
      have d1 : d ∣ u := by
        refine dv_u (S := S) (p := fun b => P b = k) u0 (fun d h => h4 (fr g n) hf d (fun b hb pb => h b hb (pb.trans hk))) (fun b hb pb => ?_)
        have pl : ¬ P b = l := fun h => hne (pb.symm.trans h)
        have := hd b hb (by rw [if_neg pl]; exact pb)
        unfold scl at this
        rw [if_neg pl, if_pos pb] at this
        exact this
      have d2 : d ∣ v := by
        refine dv_u (S := S) (p := fun b => P b = l) v0 (fun d h => h4 (tt g n) ht d (fun b hb pb => h b hb (pb.trans hl))) (fun b hb pb => ?_)
        have := hd b hb (by rw [if_pos pb])
        unfold scl at this
        rw [if_pos pb] at this
        exact this
      have := Nat.dvd_gcd d1 d2
      rw [cuv] at this
      exact Nat.dvd_one.mp this
    · have a1 : ¬ P a = l := fun h => a0 (Or.inl h)
      have a2 : ¬ P a = k := fun h => a0 (Or.inr h)
      rw [if_neg a1] at hd
      refine h4 a ha d (fun b hb pb => ?_)
      have b1 : ¬ P b = l := by rw [pb]; exact a1
      have b2 : ¬ P b = k := by rw [pb]; exact a2
      have := hd b hb (by rw [if_neg b1]; exact pb)
      unfold scl at this
      rw [if_neg b1, if_neg b2] at this
      exact this
end BA
