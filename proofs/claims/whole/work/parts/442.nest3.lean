/-! PURE: nested: the reference's table -/
section N3
variable {g : GD} {pm : Nat → Int32} {pe r l : Nat → Nat} {σ ρ : ST} {K : Nat}
def MR (g : GD) (r : Nat → Nat) (ρ : ST) : Prop := ∀ a, a < 8 → th g a = 1 → gi ρ 14 0 a = nI (r a)
theorem n_dn (k : Nat) : nI (k + 1) + -1 = nI k := by
  rw [← n_add1, Int32.add_assoc, show (1 : Int32) + -1 = 0 by decide, Int32.add_zero]
theorem M_cut_eq (hw : WG g) (hm : GM g pm ρ) (hl : LK g l K) (hr : ∀ a, a < 8 → th g a = 1 → 1 ≤ r a ∧ r a ≤ 64) (h14 : MR g r ρ) {i k j : Nat} (hik : i ≤ k) (hkj : k < j) (hj : j < K) : M_cut ρ (nI (l i)) (nI (l k)) (nI (l j)) = some (nI (cc g r l i k j)) := by
  have h12 := hw.1
  have h8 := hl.le hw
  obtain ⟨i1, i2, i3⟩ := hl.2 i (by omega)
  obtain ⟨k1, k2, k3⟩ := hl.2 k (by omega)
  obtain ⟨j1, j2, j3⟩ := hl.2 j hj
  have hij := hl.lt (show i < j by omega) hj
  have hb : ∀ k, i ≤ k → k < j + 1 → 1 ≤ r (l k) ∧ r (l k) ≤ 64 := fun k _ h => hr _ (hl.2 k (by omega)).1 (hl.2 k (by omega)).2.1
  obtain ⟨d1, d2⟩ := gdp_le (r := r) (l := l) (i := i) (j + 1 - i) (by omega) (fun k h1 h2 => hb k h1 (by omega))
  unfold M_cut
  rw [show lp (fun s1 : Int64 × Int32 =>
  if nI (l j) < s1.2 then
  (some (.inr ((s1.1, s1.2)))) else
  (if inb s1.2 8 then 
  (if (gi ρ 1 0 (ix s1.2)) = 0 then
  (some (.inl ((s1.1, s1.2 + 1)))) else
  ((M_gcd ((gi ρ 14 0 (ix s1.2)).toInt64) s1.1).bind (fun b1 => 
  (some (.inl ((b1, s1.2 + 1))))))) else none)) 1000 ((0, nI (l i))) = some (lN (gdp r l i (j + 1 - i)), nI (l i + (l j + 1 - l i))) from ?_]
  rotate_left
  · rw [show (0, nI (l i)) = (lN (gdp r l i (sm (th g) (l i + 0) - i)), nI (l i + 0)) by rw [Nat.add_zero, i3, Nat.sub_self]; rfl]
    have hend : sm (th g) (l i + (l j + 1 - l i)) - i = j + 1 - i := by
      rw [show l i + (l j + 1 - l i) = l j + 1 by omega, show sm (th g) (l j + 1) = sm (th g) (l j) + th g (l j) from rfl, j2, j3]
    refine lp_for (fun m => (lN (gdp r l i (sm (th g) (l i + m) - i)), nI (l i + m))) (l j + 1 - l i) (fun m hm' => ?_) ?_ 1000 0 (by omega) (by omega)
    · dsimp only
      have w1 := (hw.2.1 (l i + m) (by omega)).1
      have e1 : sm (th g) (l i + (m + 1)) = sm (th g) (l i + m) + th g (l i + m) := rfl
      have e2 := sm_up (f := th g) (a := l i) (l i + m) (by omega)
      rw [i3] at e2
      rw [if_neg (by rw [n_lt (by omega) (by omega)]; omega), if_pos (nb (by omega) (by decide)), nx (by omega), (hm.2.1 _ (show l i + m < 8 by omega)).1, n_add1]
      by_cases ht : th g (l i + m) = 1
      · obtain ⟨q1, q2⟩ := hl.rk (show l i + m < 8 by omega) ht
        have q3 : sm (th g) (l i + m) < j + 1 := by
          have := sm_up (f := th g) (a := l i + m) (l j) (by omega)
          omega
        have g1 := gdp_b (r := r) (l := l) (i := i) (sm (th g) (l i + m) - i) (fun k h1 h2 => hb k h1 (by omega))
        have r1 := hr _ (show l i + m < 8 by omega) ht
        rw [if_neg (by rw [ht]; decide), h14 _ (by omega) ht, nI_l (by omega), M_gcd_eq (by omega) (by omega), e1, ht, show sm (th g) (l i + m) + 1 - i = (sm (th g) (l i + m) - i) + 1 by omega]
        show _ = some (Sum.inl (lN (Nat.gcd (gdp r l i (sm (th g) (l i + m) - i)) (r (l (i + (sm (th g) (l i + m) - i))))), nI (l i + (m + 1))))
        rw [show i + (sm (th g) (l i + m) - i) = sm (th g) (l i + m) by omega, q2, Nat.gcd_comm]
        rfl
      · rw [if_pos (by rw [show th g (l i + m) = 0 by omega]; rfl), e1, show th g (l i + m) = 0 by omega]
        rfl
    · dsimp only
      rw [if_pos (by rw [n_lt (by omega) (by omega)]; omega), hend]
  simp only [Option.bind_some]
  rw [lN_i]
  rw [show lp (fun s2 : Int32 × Int32 =>
  if (gi ρ 0 0 8) ≤ s2.2 then
  (some (.inr ((s2.1, s2.2)))) else
  (if inb s2.2 13 then 
  (if (gi ρ 4 0 (ix s2.2)) < nI (l i) then
  (some (.inl ((s2.1, s2.2 + 1)))) else
  (if nI (l k) < (gi ρ 4 0 (ix s2.2)) then
  (some (.inl ((s2.1, s2.2 + 1)))) else
  (if (gi ρ 5 0 (ix s2.2)) ≤ nI (l k) then
  (some (.inl ((s2.1, s2.2 + 1)))) else
  (if nI (l j) < (gi ρ 5 0 (ix s2.2)) then
  (some (.inl ((s2.1, s2.2 + 1)))) else
  (if inb (gi ρ 4 0 (ix s2.2)) 8 then 
  (if ¬ nI (gdp r l i (j + 1 - i)) = 0 then 
  (some (.inl ((s2.1 + (((gi ρ 6 0 (ix s2.2)) * (gi ρ 14 0 (ix (gi ρ 4 0 (ix s2.2))))) / nI (gdp r l i (j + 1 - i))), s2.2 + 1)))) else none) else none))))) else none)) 1000 ((0, 0)) = some (nI (sm (fun e => cutv g r (l i) (l k) (l j) e / gdp r l i (j + 1 - i)) (ne g)), nI (ne g)) from ?_]
  · show some (nI (sm (fun e => cutv g r (l i) (l k) (l j) e / gdp r l i (j + 1 - i)) (ne g))) = some (nI (sm (cutv g r (l i) (l k) (l j)) (ne g) / gdp r l i (j + 1 - i)))
    rw [sm_div (by omega)]
    intro e he
    unfold cutv
    by_cases hA : l i ≤ fr g e ∧ fr g e ≤ l k ∧ l k + 1 ≤ tt g e ∧ tt g e ≤ l j
    · rw [if_pos hA]
      obtain ⟨w1, w2, w3, w4, -⟩ := hw.2.2 e he
      obtain ⟨q1, q2⟩ := hl.rk w1 w3
      have u1 := sm_up (f := th g) (a := l i) (fr g e) hA.1
      have u2 := sm_up (f := th g) (a := fr g e) (l j) (by omega)
      have := gdp_dvd (r := r) (l := l) (i := i) (j + 1 - i) (sm (th g) (fr g e)) (by omega) (by omega)
      rw [q2] at this
      exact Nat.dvd_trans this (Nat.dvd_mul_left _ _)
    · rw [if_neg hA]
      exact Nat.dvd_zero _
  · refine lp_for (fun e => (nI (sm (fun e => cutv g r (l i) (l k) (l j) e / gdp r l i (j + 1 - i)) e), nI e)) (ne g) (fun e he => ?_) ?_ 1000 0 (by omega) (by omega)
    · dsimp only
      obtain ⟨w1, w2, w3, w4, w5, w6, -⟩ := hw.2.2 e he
      obtain ⟨c1, c2, c3, -⟩ := hm.2.2 e he
      have r1 := hr _ w1 w3
      have m1 : rin g e * r (fr g e) ≤ 6 * 64 := Nat.mul_le_mul w6 r1.2
      rw [hm.1, if_neg (by rw [n_le (by omega) (by omega)]; omega), if_pos (nb (by omega) (by decide)), nx (by omega), c1, c2, c3, n_add1]
      show _ = some (Sum.inl (nI (sm (fun e => cutv g r (l i) (l k) (l j) e / gdp r l i (j + 1 - i)) e + cutv g r (l i) (l k) (l j) e / gdp r l i (j + 1 - i)), nI (e + 1)))
      unfold cutv
      by_cases h1 : fr g e < l i
      · rw [if_pos (by rw [n_lt (by omega) (by omega)]; exact h1), if_neg (show ¬ (l i ≤ fr g e ∧ fr g e ≤ l k ∧ l k + 1 ≤ tt g e ∧ tt g e ≤ l j) by omega), Nat.zero_div]
        rfl
      · by_cases h2 : l k < fr g e
        · rw [if_neg (by rw [n_lt (by omega) (by omega)]; exact h1), if_pos (by rw [n_lt (by omega) (by omega)]; exact h2), if_neg (show ¬ (l i ≤ fr g e ∧ fr g e ≤ l k ∧ l k + 1 ≤ tt g e ∧ tt g e ≤ l j) by omega), Nat.zero_div]
          rfl
        · by_cases h3 : tt g e ≤ l k
          · rw [if_neg (by rw [n_lt (by omega) (by omega)]; exact h1), if_neg (by rw [n_lt (by omega) (by omega)]; exact h2), if_pos (by rw [n_le (by omega) (by omega)]; exact h3), if_neg (show ¬ (l i ≤ fr g e ∧ fr g e ≤ l k ∧ l k + 1 ≤ tt g e ∧ tt g e ≤ l j) by omega), Nat.zero_div]
            rfl
          · by_cases h4 : l j < tt g e
            · rw [if_neg (by rw [n_lt (by omega) (by omega)]; exact h1), if_neg (by rw [n_lt (by omega) (by omega)]; exact h2), if_neg (by rw [n_le (by omega) (by omega)]; exact h3), if_pos (by rw [n_lt (by omega) (by omega)]; exact h4), if_neg (show ¬ (l i ≤ fr g e ∧ fr g e ≤ l k ∧ l k + 1 ≤ tt g e ∧ tt g e ≤ l j) by omega), Nat.zero_div]
              rfl
            · rw [if_neg (by rw [n_lt (by omega) (by omega)]; exact h1), if_neg (by rw [n_lt (by omega) (by omega)]; exact h2), if_neg (by rw [n_le (by omega) (by omega)]; exact h3), if_neg (by rw [n_lt (by omega) (by omega)]; exact h4), if_pos (nb w1 (by decide)), if_pos (nI_ne0 (by omega) (by omega)), nx (by omega), h14 _ w1 w3, pk_mul, pk_div (by omega) (by omega) (by omega), nI_add, if_pos (show l i ≤ fr g e ∧ fr g e ≤ l k ∧ l k + 1 ≤ tt g e ∧ tt g e ≤ l j by omega)]
    · dsimp only
      rw [hm.1, if_pos (by rw [n_le (by omega) (by omega)]; omega)]
/-- upwards to the next that is there -/
theorem M_nx (hm : GM g pm ρ) {s z : Nat} (hs : s ≤ z) (hz : z < 8) (tz : th g z = 1) (hn : ∀ a, s ≤ a → a < z → th g a = 0) : lp (fun s7 : Int32 =>
  if inb s7 8 then 
  (if (gi ρ 1 0 (ix s7)) = 0 then
  (some (.inl (s7 + 1))) else
  (some (.inr s7))) else none) 1000 (nI s) = some (nI z) := by
  rw [show nI s = nI (s + 0) from rfl]
  refine lp_for (fun m => nI (s + m)) (z - s) (fun m hm' => ?_) ?_ 1000 0 (by omega) (by omega)
  · rw [if_pos (nb (by omega) (by decide)), nx (by omega), (hm.2.1 _ (show s + m < 8 by omega)).1, hn _ (by omega) (by omega), if_pos (show nI 0 = 0 from rfl), n_add1]
    rfl
  · rw [show s + (z - s) = z by omega, if_pos (nb hz (by decide)), nx (by omega), (hm.2.1 z hz).1, tz, if_neg (show ¬ nI 1 = 0 by decide)]
theorem M_dn (hm : GM g pm ρ) {z : Nat} (hz : z < 8) (tz : th g z = 1) (hn : ∀ a, z < a → a < 8 → th g a = 0) : lp (fun s3 : Int32 =>
  if inb s3 8 then 
  (if (gi ρ 1 0 (ix s3)) = 0 then
  (some (.inl (s3 + -1))) else
  (some (.inr s3))) else none) 1000 7 = some (nI z) := by
  rw [show (7 : Int32) = nI (7 - 0) from rfl]
  refine lp_for (fun m => nI (7 - m)) (7 - z) (fun m hm' => ?_) ?_ 1000 0 (by omega) (by omega)
  · rw [if_pos (nb (by omega) (by decide)), nx (by omega), (hm.2.1 _ (show 7 - m < 8 by omega)).1, hn _ (by omega) (by omega), if_pos (show nI 0 = 0 from rfl), show 7 - m = (7 - (m + 1)) + 1 by omega, n_dn]
  · rw [show 7 - (7 - z) = z by omega, if_pos (nb hz (by decide)), nx (by omega), (hm.2.1 z hz).1, tz, if_neg (show ¬ nI 1 = 0 by decide)]
/-- none is there between two neighbours -/
theorem LK.gap (hw : WG g) (hl : LK g l K) {a : Nat} (ha : a < 8) {n : Nat} (h1 : n = 0 ∨ l (n - 1) < a) (h2 : n = K ∨ a < l n) (hn : n ≤ K) : th g a = 0 := by
  have w1 := (hw.2.1 a ha).1
  apply Classical.byContradiction
  intro h
  have ta : th g a = 1 := by omega
  obtain ⟨q1, q2⟩ := hl.rk ha ta
  generalize sm (th g) a = q at *
  subst q2
  by_cases hq : q < n
  · rcases h1 with h1 | h1
    · omega
    · by_cases e : q = n - 1
      · subst e; omega
      · have := hl.lt (show q < n - 1 by omega) (by omega)
        omega
  · rcases h2 with h2 | h2
    · omega
    · by_cases e : q = n
      · subst e; omega
      · have := hl.lt (show n < q by omega) q1
        omega
def Fr25 (ρ ρ' : ST) : Prop := ∀ K i k, K ≠ 25 → gi ρ' K i k = gi ρ K i k
abbrev nib (t : ST) (s n : Int32) : Int32 × Int32 → Option ((Int32 × Int32) ⊕ (Int32 × Int32)) := fun s6 : Int32 × Int32 =>
  if ((s + n) - 1) ≤ s6.2 then
  (some (.inr ((s6.1, s6.2)))) else
  (if inb s 8 then 
  (if (gi t 1 0 (ix s)) = 0 then
  (some (.inr ((s6.1, s6.2)))) else
  (if inb ((s + n) - 1) 8 then 
  (if (gi t 1 0 (ix ((s + n) - 1))) = 0 then
  (some (.inr ((s6.1, s6.2)))) else
  (if inb s6.2 8 then 
  (if (gi t 1 0 (ix s6.2)) = 0 then
  (some (.inl ((s6.1, s6.2 + 1)))) else
  ((lp (fun s7 : Int32 =>
  if inb s7 8 then 
  (if (gi t 1 0 (ix s7)) = 0 then
  (some (.inl (s7 + 1))) else
  (some (.inr s7))) else none) 1000 (s6.2 + 1)).bind (fun r7 : Int32 =>
  if inb ((s * 8) + s6.2) 64 then 
  (if inb ((r7 * 8) + ((s + n) - 1)) 64 then 
  ((M_cut t s s6.2 ((s + n) - 1)).bind (fun b1 => 
  (if s6.1 < 0 then
  (some (.inl ((((gi t 25 0 (ix ((s * 8) + s6.2))) + (gi t 25 0 (ix ((r7 * 8) + ((s + n) - 1))))) + b1, s6.2 + 1)))) else
  (if s6.1 ≤ (((gi t 25 0 (ix ((s * 8) + s6.2))) + (gi t 25 0 (ix ((r7 * 8) + ((s + n) - 1))))) + b1) then
  (some (.inl ((s6.1, s6.2 + 1)))) else
  (some (.inl ((((gi t 25 0 (ix ((s * 8) + s6.2))) + (gi t 25 0 (ix ((r7 * 8) + ((s + n) - 1))))) + b1, s6.2 + 1)))))))) else none) else none))) else none)) else none)) else none)
abbrev sbb (r3 n : Int32) : ST × Int32 → Option ((ST × Int32) ⊕ (ST × Int32)) := fun s5 : ST × Int32 =>
  if r3 < ((s5.2 + n) - 1) then
  (some (.inr ((s5.1, s5.2)))) else
  ((lp (nib s5.1 s5.2 n) 1000 ((-1, s5.2))).bind (fun r6 : Int32 × Int32 =>
  if 0 ≤ r6.1 then
  (if inb ((s5.2 * 8) + ((s5.2 + n) - 1)) 64 then 
  (some (.inl ((su s5.1 25 0 (ix ((s5.2 * 8) + ((s5.2 + n) - 1))) r6.1, s5.2 + 1)))) else none) else
  (if inb ((s5.2 * 8) + ((s5.2 + n) - 1)) 64 then 
  (some (.inl ((su s5.1 25 0 (ix ((s5.2 * 8) + ((s5.2 + n) - 1))) 0, s5.2 + 1)))) else none)))
abbrev nbb (r2 r3 : Int32) : ST × Int32 → Option ((ST × Int32) ⊕ (ST × Int32)) := fun s4 : ST × Int32 =>
  if ((r3 - r2) + 1) < s4.2 then
  (some (.inr ((s4.1, s4.2)))) else
  ((lp (sbb r3 s4.2) 1000 ((s4.1, r2))).bind (fun r5 : ST × Int32 =>
  some (.inl ((r5.1, s4.2 + 1)))))
abbrev okb (σ : ST) : Int32 → Option (Int32 ⊕ (Int32 ⊕ (Int32 × ST))) := fun s1 : Int32 =>
  if (gi σ 0 0 8) ≤ s1 then
  (some (.inr (.inl s1))) else
  (if inb s1 13 then 
  (if (gi σ 4 0 (ix s1)) = (gi σ 5 0 (ix s1)) then
  (some (.inl (s1 + 1))) else
  (if (gi σ 5 0 (ix s1)) < (gi σ 4 0 (ix s1)) then
  (some (.inr (.inr ((-4, σ))))) else
  (if (gi σ 8 0 (ix s1)) ≤ 0 then
  (some (.inl (s1 + 1))) else
  (some (.inr (.inr ((-4, σ)))))))) else none)
theorem M_nested_def (σ : ST) : M_nested σ = if (gi σ 0 0 9) = 0 then
  (some ((-4, σ))) else
  ((lp (okb σ) 1000 0).bind (fun r1 : (Int32) ⊕ (Int32 × ST) => Sum.elim (fun o1 : Int32 =>
  ((lp (fun s2 : Int32 =>
  if inb s2 8 then 
  (if (gi σ 1 0 (ix s2)) = 0 then
  (some (.inl (s2 + 1))) else
  (some (.inr s2))) else none) 1000 0).bind (fun r2 : Int32 =>
  (lp (fun s3 : Int32 =>
  if inb s3 8 then 
  (if (gi σ 1 0 (ix s3)) = 0 then
  (some (.inl (s3 + -1))) else
  (some (.inr s3))) else none) 1000 7).bind (fun r3 : Int32 =>
  (lp (nbb r2 r3) 1000 ((σ, 1))).bind (fun r4 : ST × Int32 =>
  if inb ((r2 * 8) + r3) 64 then 
  (some ((gi r4.1 25 0 (ix ((r2 * 8) + r3)), r4.1))) else none))))) (fun v1 : Int32 × ST => some v1) r1)) := rfl
theorem n_i8 {a b : Nat} : nI a * 8 + nI b = nI (a * 8 + b) := by rw [show (8 : Int32) = nI 8 from rfl, pk_mul, nI_add]
theorem n_e1 {a b : Nat} : nI a + nI (b + 1) - 1 = nI (a + b) := by
  rw [nI_add, show (1 : Int32) = nI 1 from rfl, pk_sub (by omega)]
  rfl
/-- the table, for what is shorter than n -/
def NTM (f : Nat → Nat → Nat) (l : Nat → Nat) (K n s : Nat) (ρ : ST) : Prop := ∀ i j, i ≤ j → j < K → (l j < l i + n ∨ (l j = l i + n ∧ l i < s)) → gi ρ 25 0 (l i * 8 + l j) = nI (f i j)
theorem M_in_eq (hw : WG g) (hm : GM g pm ρ) (hl : LK g l K) (hr : ∀ a, a < 8 → th g a = 1 → 1 ≤ r a ∧ r a ≤ 64) (h14 : MR g r ρ) {i j n : Nat} (hij : i < j) (hj : j < K) (hn : l j = l i + n) (ht : NTM (co (cc g r l) 8) l K n (l i) ρ) : lp (nib ρ (nI (l i)) (nI (n + 1))) 1000 (-1, nI (l i)) = some (nI (co (cc g r l) 8 i j), nI (l j)) := by
  have h8 := hl.le hw
  obtain ⟨i1, i2, i3⟩ := hl.2 i (by omega)
  obtain ⟨j1, j2, j3⟩ := hl.2 j hj
  have hlt := hl.lt hij hj
  have cb := fun a b => co_bd (c := cc g r l) (B := 4608) (fun i k j => cc_le hw hr i k j) 8 a b
  have vb : ∀ k, i ≤ k → k < j → co (cc g r l) 8 i k + co (cc g r l) 8 (k + 1) j + cc g r l i k j ≤ 100000 := by
    intro k h1 h2
    have b1 := cb i k
    have b2 := cb (k + 1) j
    have b3 := cc_le (l := l) hw hr i k j
    have b4 : 4608 * (k - i) ≤ 4608 * 8 := Nat.mul_le_mul_left _ (by omega)
    have b5 : 4608 * (j - (k + 1)) ≤ 4608 * 8 := Nat.mul_le_mul_left _ (by omega)
    omega
  have hv := co_eq (c := cc g r l) hij (show j < 8 by omega)
  generalize hV : (fun k => co (cc g r l) 8 i k + co (cc g r l) 8 (k + 1) j + cc g r l i k j) = V at hv
  have vV : ∀ k, co (cc g r l) 8 i k + co (cc g r l) 8 (k + 1) j + cc g r l i k j = V k := fun k => congrFun hV k
  have vB : ∀ k, i ≤ k → k < j → V k ≤ 100000 := fun k h1 h2 => by rw [← vV]; exact vb k h1 h2
  rw [show ((-1 : Int32), nI (l i)) = (if (0 : Nat) = 0 then -1 else nI (mp V i (sm (th g) (l i + 0) - i)), nI (l i + 0)) from rfl]
  have hres : (nI (co (cc g r l) 8 i j), nI (l j)) = (if n = 0 then (-1 : Int32) else nI (mp V i (sm (th g) (l i + n) - i)), nI (l i + n)) := by
    rw [if_neg (by omega), ← hn, j3, hv]
  rw [hres]
  refine lp_for (fun m => (if m = 0 then (-1 : Int32) else nI (mp V i (sm (th g) (l i + m) - i)), nI (l i + m))) n (fun m hm' => ?_) ?_ 1000 0 (by omega) (by omega)
  · unfold nib
    dsimp only
    have w1 := (hw.2.1 (l i + m) (by omega)).1
    have e1 : sm (th g) (l i + (m + 1)) = sm (th g) (l i + m) + th g (l i + m) := rfl
    have e2 := sm_up (f := th g) (a := l i) (l i + m) (by omega)
    rw [i3] at e2
    rw [n_e1, ← hn, if_neg (by rw [n_le (by omega) (by omega)]; omega), if_pos (nb (by omega) (by decide)), nx (by omega), (hm.2.1 _ i1).1, i2, if_neg (show ¬ nI 1 = 0 by decide), if_pos (nb (by omega) (by decide)), nx (by omega), (hm.2.1 _ j1).1, j2, if_neg (show ¬ nI 1 = 0 by decide), if_pos (nb (show l i + m < 8 by omega) (by decide)), nx (by omega), (hm.2.1 _ (show l i + m < 8 by omega)).1, n_add1, if_neg (show ¬ m + 1 = 0 by omega)]
    by_cases ht1 : th g (l i + m) = 1
    · obtain ⟨q1, q2⟩ := hl.rk (show l i + m < 8 by omega) ht1
      have q3 : sm (th g) (l i + m) < j := by
        have := sm_up1 (f := th g) (a := l i + m) (b := l j) (by omega) ht1
        omega
      rw [e1, ht1, if_neg (show ¬ nI 1 = 0 by decide)]
      obtain ⟨k, hk⟩ : ∃ k, k = sm (th g) (l i + m) := ⟨_, rfl⟩
      rw [← hk] at q1 q2 q3 e2 ⊢
      obtain ⟨k1, k2, k3⟩ := hl.2 (k + 1) (by omega)
      have hk1 : l k < l (k + 1) := hl.lt (by omega) (by omega)
      have hk2 : l (k + 1) ≤ l j := by
        by_cases e : k + 1 = j
        · rw [e]; exact Nat.le_refl _
        · exact Nat.le_of_lt (hl.lt (by omega) hj)
      rw [M_nx hm (show l i + m + 1 ≤ l (k + 1) by omega) k1 k2 (fun a h1 h2 => hl.gap hw (show a < 8 by omega) (n := k + 1) (Or.inr (by rw [show k + 1 - 1 = k from rfl]; omega)) (Or.inr h2) (by omega))]
      simp only [Option.bind_some]
      rw [n_i8, n_i8, if_pos (nb (by omega) (by decide)), if_pos (nb (by omega) (by decide)), nx (by omega), nx (by omega), ← q2, M_cut_eq hw hm hl hr h14 e2 q3 hj, ht i k e2 (by omega) (by omega), ht (k + 1) j (by omega) hj (by omega)]
      simp only [Option.bind_some]
      have v1 := vB k e2 q3
      rw [nI_add, nI_add, vV k, show k + 1 - i = (k - i) + 1 by omega]
      show _ = some (Sum.inl (nI (if V (i + (k - i)) < mp V i (k - i) then V (i + (k - i)) else mp V i (k - i)), nI (l i + (m + 1))))
      rw [show i + (k - i) = k by omega]
      by_cases h0 : m = 0
      · subst h0
        have hki : k = i := by rw [hk]; exact i3
        subst hki
        rw [if_pos rfl, if_pos (show (-1 : Int32) < 0 by decide), Nat.sub_self, if_pos (show V k < mp V k 0 from by show V k < 2147483647; omega)]
      · have hik : i < k := by
          have := sm_up1 (f := th g) (a := l i) (b := l i + m) (by omega) i2
          omega
        have mb : mp V i (k - i) ≤ 100000 := mp_bd (by omega) (vB i (by omega) (by omega))
        rw [if_neg h0, if_neg (show ¬ nI (mp V i (k - i)) < 0 by rw [show (0 : Int32) = nI 0 from rfl, n_lt (by omega) (by omega)]; omega)]
        by_cases hle : mp V i (k - i) ≤ V k
        · rw [if_pos (by rw [n_le (by omega) (by omega)]; exact hle), if_neg (by omega), q2]
          rfl
        · rw [if_neg (by rw [n_le (by omega) (by omega)]; exact hle), if_pos (by omega), q2]
          rfl
    · have hm0 : ¬ m = 0 := by
        intro h
        subst h
        exact ht1 i2
      rw [if_pos (by rw [show th g (l i + m) = 0 by omega]; rfl), e1, show th g (l i + m) = 0 by omega, if_neg hm0]
      rfl
  · unfold nib
    dsimp only
    rw [n_e1, if_pos (by rw [n_le (by omega) (by omega)]; omega)]
end N3
